theorem dX0_init_0 : decode cX0_init 0 = .ok (.aload_n 0, 1) := by decide +kernel
theorem dX0_init_1 : decode cX0_init 1 = .ok (.invokespecial 3, 3) := by decide +kernel
theorem dX0_init_4 : decode cX0_init 4 = .ok (.aload_n 0, 1) := by decide +kernel
theorem dX0_init_5 : decode cX0_init 5 = .ok (.bipush 8, 2) := by decide +kernel
theorem dX0_init_7 : decode cX0_init 7 = .ok (.newarray .int, 2) := by decide +kernel
theorem dX0_init_9 : decode cX0_init 9 = .ok (.putfield 9, 3) := by decide +kernel
theorem dX0_init_12 : decode cX0_init 12 = .ok (.aload_n 0, 1) := by decide +kernel
theorem dX0_init_13 : decode cX0_init 13 = .ok (.bipush 8, 2) := by decide +kernel
theorem dX0_init_15 : decode cX0_init 15 = .ok (.newarray .int, 2) := by decide +kernel
theorem dX0_init_17 : decode cX0_init 17 = .ok (.putfield 15, 3) := by decide +kernel
theorem dX0_init_20 : decode cX0_init 20 = .ok (.aload_n 0, 1) := by decide +kernel
theorem dX0_init_21 : decode cX0_init 21 = .ok (.bipush 8, 2) := by decide +kernel
theorem dX0_init_23 : decode cX0_init 23 = .ok (.newarray .int, 2) := by decide +kernel
theorem dX0_init_25 : decode cX0_init 25 = .ok (.putfield 18, 3) := by decide +kernel
theorem dX0_init_28 : decode cX0_init 28 = .ok (.aload_n 0, 1) := by decide +kernel
theorem dX0_init_29 : decode cX0_init 29 = .ok (.bipush 8, 2) := by decide +kernel
theorem dX0_init_31 : decode cX0_init 31 = .ok (.newarray .int, 2) := by decide +kernel
theorem dX0_init_33 : decode cX0_init 33 = .ok (.putfield 21, 3) := by decide +kernel
theorem dX0_init_36 : decode cX0_init 36 = .ok (.aload_n 0, 1) := by decide +kernel
theorem dX0_init_37 : decode cX0_init 37 = .ok (.bipush 8, 2) := by decide +kernel
theorem dX0_init_39 : decode cX0_init 39 = .ok (.newarray .long, 2) := by decide +kernel
theorem dX0_init_41 : decode cX0_init 41 = .ok (.putfield 24, 3) := by decide +kernel
theorem dX0_init_44 : decode cX0_init 44 = .ok (.aload_n 0, 1) := by decide +kernel
theorem dX0_init_45 : decode cX0_init 45 = .ok (.iconst 5, 1) := by decide +kernel
theorem dX0_init_46 : decode cX0_init 46 = .ok (.newarray .int, 2) := by decide +kernel
theorem dX0_init_48 : decode cX0_init 48 = .ok (.putfield 28, 3) := by decide +kernel
theorem dX0_init_51 : decode cX0_init 51 = .ok (.aload_n 0, 1) := by decide +kernel
theorem dX0_init_52 : decode cX0_init 52 = .ok (.iconst 5, 1) := by decide +kernel
theorem dX0_init_53 : decode cX0_init 53 = .ok (.newarray .int, 2) := by decide +kernel
theorem dX0_init_55 : decode cX0_init 55 = .ok (.putfield 31, 3) := by decide +kernel
theorem dX0_init_58 : decode cX0_init 58 = .ok (.aload_n 0, 1) := by decide +kernel
theorem dX0_init_59 : decode cX0_init 59 = .ok (.iconst 5, 1) := by decide +kernel
theorem dX0_init_60 : decode cX0_init 60 = .ok (.newarray .int, 2) := by decide +kernel
theorem dX0_init_62 : decode cX0_init 62 = .ok (.putfield 34, 3) := by decide +kernel
theorem dX0_init_65 : decode cX0_init 65 = .ok (.aload_n 0, 1) := by decide +kernel
theorem dX0_init_66 : decode cX0_init 66 = .ok (.bipush 12, 2) := by decide +kernel
theorem dX0_init_68 : decode cX0_init 68 = .ok (.newarray .int, 2) := by decide +kernel
theorem dX0_init_70 : decode cX0_init 70 = .ok (.putfield 37, 3) := by decide +kernel
theorem dX0_init_73 : decode cX0_init 73 = .ok (.aload_n 0, 1) := by decide +kernel
theorem dX0_init_74 : decode cX0_init 74 = .ok (.bipush 12, 2) := by decide +kernel
theorem dX0_init_76 : decode cX0_init 76 = .ok (.newarray .int, 2) := by decide +kernel
theorem dX0_init_78 : decode cX0_init 78 = .ok (.putfield 40, 3) := by decide +kernel
theorem dX0_init_81 : decode cX0_init 81 = .ok (.aload_n 0, 1) := by decide +kernel
theorem dX0_init_82 : decode cX0_init 82 = .ok (.bipush 12, 2) := by decide +kernel
theorem dX0_init_84 : decode cX0_init 84 = .ok (.newarray .int, 2) := by decide +kernel
theorem dX0_init_86 : decode cX0_init 86 = .ok (.putfield 43, 3) := by decide +kernel
theorem dX0_init_89 : decode cX0_init 89 = .ok (.aload_n 0, 1) := by decide +kernel
theorem dX0_init_90 : decode cX0_init 90 = .ok (.bipush 12, 2) := by decide +kernel
theorem dX0_init_92 : decode cX0_init 92 = .ok (.newarray .int, 2) := by decide +kernel
theorem dX0_init_94 : decode cX0_init 94 = .ok (.putfield 46, 3) := by decide +kernel
theorem dX0_init_97 : decode cX0_init 97 = .ok (.return_, 1) := by decide +kernel
theorem dX0_becomes_0 : decode cX0_becomes 0 = .ok (.aload_n 0, 1) := by decide +kernel
theorem dX0_becomes_1 : decode cX0_becomes 1 = .ok (.aload_n 1, 1) := by decide +kernel
theorem dX0_becomes_2 : decode cX0_becomes 2 = .ok (.getfield 49, 3) := by decide +kernel
theorem dX0_becomes_5 : decode cX0_becomes 5 = .ok (.putfield 49, 3) := by decide +kernel
theorem dX0_becomes_8 : decode cX0_becomes 8 = .ok (.aload_n 0, 1) := by decide +kernel
theorem dX0_becomes_9 : decode cX0_becomes 9 = .ok (.aload_n 1, 1) := by decide +kernel
theorem dX0_becomes_10 : decode cX0_becomes 10 = .ok (.getfield 53, 3) := by decide +kernel
theorem dX0_becomes_13 : decode cX0_becomes 13 = .ok (.putfield 53, 3) := by decide +kernel
theorem dX0_becomes_16 : decode cX0_becomes 16 = .ok (.aload_n 0, 1) := by decide +kernel
theorem dX0_becomes_17 : decode cX0_becomes 17 = .ok (.aload_n 1, 1) := by decide +kernel
theorem dX0_becomes_18 : decode cX0_becomes 18 = .ok (.getfield 56, 3) := by decide +kernel
theorem dX0_becomes_21 : decode cX0_becomes 21 = .ok (.putfield 56, 3) := by decide +kernel
theorem dX0_becomes_24 : decode cX0_becomes 24 = .ok (.aload_n 0, 1) := by decide +kernel
theorem dX0_becomes_25 : decode cX0_becomes 25 = .ok (.aload_n 1, 1) := by decide +kernel
theorem dX0_becomes_26 : decode cX0_becomes 26 = .ok (.getfield 59, 3) := by decide +kernel
theorem dX0_becomes_29 : decode cX0_becomes 29 = .ok (.putfield 59, 3) := by decide +kernel
theorem dX0_becomes_32 : decode cX0_becomes 32 = .ok (.aload_n 0, 1) := by decide +kernel
theorem dX0_becomes_33 : decode cX0_becomes 33 = .ok (.aload_n 1, 1) := by decide +kernel
theorem dX0_becomes_34 : decode cX0_becomes 34 = .ok (.getfield 62, 3) := by decide +kernel
theorem dX0_becomes_37 : decode cX0_becomes 37 = .ok (.putfield 62, 3) := by decide +kernel
theorem dX0_becomes_40 : decode cX0_becomes 40 = .ok (.aload_n 1, 1) := by decide +kernel
theorem dX0_becomes_41 : decode cX0_becomes 41 = .ok (.getfield 9, 3) := by decide +kernel
theorem dX0_becomes_44 : decode cX0_becomes 44 = .ok (.iconst 0, 1) := by decide +kernel
theorem dX0_becomes_45 : decode cX0_becomes 45 = .ok (.aload_n 0, 1) := by decide +kernel
theorem dX0_becomes_46 : decode cX0_becomes 46 = .ok (.getfield 9, 3) := by decide +kernel
theorem dX0_becomes_49 : decode cX0_becomes 49 = .ok (.iconst 0, 1) := by decide +kernel
theorem dX0_becomes_50 : decode cX0_becomes 50 = .ok (.bipush 8, 2) := by decide +kernel
theorem dX0_becomes_52 : decode cX0_becomes 52 = .ok (.invokestatic 65, 3) := by decide +kernel
theorem dX0_becomes_55 : decode cX0_becomes 55 = .ok (.aload_n 1, 1) := by decide +kernel
theorem dX0_becomes_56 : decode cX0_becomes 56 = .ok (.getfield 15, 3) := by decide +kernel
theorem dX0_becomes_59 : decode cX0_becomes 59 = .ok (.iconst 0, 1) := by decide +kernel
theorem dX0_becomes_60 : decode cX0_becomes 60 = .ok (.aload_n 0, 1) := by decide +kernel
theorem dX0_becomes_61 : decode cX0_becomes 61 = .ok (.getfield 15, 3) := by decide +kernel
theorem dX0_becomes_64 : decode cX0_becomes 64 = .ok (.iconst 0, 1) := by decide +kernel
theorem dX0_becomes_65 : decode cX0_becomes 65 = .ok (.bipush 8, 2) := by decide +kernel
theorem dX0_becomes_67 : decode cX0_becomes 67 = .ok (.invokestatic 65, 3) := by decide +kernel
theorem dX0_becomes_70 : decode cX0_becomes 70 = .ok (.aload_n 1, 1) := by decide +kernel
theorem dX0_becomes_71 : decode cX0_becomes 71 = .ok (.getfield 18, 3) := by decide +kernel
theorem dX0_becomes_74 : decode cX0_becomes 74 = .ok (.iconst 0, 1) := by decide +kernel
theorem dX0_becomes_75 : decode cX0_becomes 75 = .ok (.aload_n 0, 1) := by decide +kernel
theorem dX0_becomes_76 : decode cX0_becomes 76 = .ok (.getfield 18, 3) := by decide +kernel
theorem dX0_becomes_79 : decode cX0_becomes 79 = .ok (.iconst 0, 1) := by decide +kernel
theorem dX0_becomes_80 : decode cX0_becomes 80 = .ok (.bipush 8, 2) := by decide +kernel
theorem dX0_becomes_82 : decode cX0_becomes 82 = .ok (.invokestatic 65, 3) := by decide +kernel
theorem dX0_becomes_85 : decode cX0_becomes 85 = .ok (.aload_n 1, 1) := by decide +kernel
theorem dX0_becomes_86 : decode cX0_becomes 86 = .ok (.getfield 21, 3) := by decide +kernel
theorem dX0_becomes_89 : decode cX0_becomes 89 = .ok (.iconst 0, 1) := by decide +kernel
theorem dX0_becomes_90 : decode cX0_becomes 90 = .ok (.aload_n 0, 1) := by decide +kernel
theorem dX0_becomes_91 : decode cX0_becomes 91 = .ok (.getfield 21, 3) := by decide +kernel
theorem dX0_becomes_94 : decode cX0_becomes 94 = .ok (.iconst 0, 1) := by decide +kernel
theorem dX0_becomes_95 : decode cX0_becomes 95 = .ok (.bipush 8, 2) := by decide +kernel
theorem dX0_becomes_97 : decode cX0_becomes 97 = .ok (.invokestatic 65, 3) := by decide +kernel
theorem dX0_becomes_100 : decode cX0_becomes 100 = .ok (.aload_n 1, 1) := by decide +kernel
theorem dX0_becomes_101 : decode cX0_becomes 101 = .ok (.getfield 24, 3) := by decide +kernel
theorem dX0_becomes_104 : decode cX0_becomes 104 = .ok (.iconst 0, 1) := by decide +kernel
theorem dX0_becomes_105 : decode cX0_becomes 105 = .ok (.aload_n 0, 1) := by decide +kernel
theorem dX0_becomes_106 : decode cX0_becomes 106 = .ok (.getfield 24, 3) := by decide +kernel
theorem dX0_becomes_109 : decode cX0_becomes 109 = .ok (.iconst 0, 1) := by decide +kernel
theorem dX0_becomes_110 : decode cX0_becomes 110 = .ok (.bipush 8, 2) := by decide +kernel
theorem dX0_becomes_112 : decode cX0_becomes 112 = .ok (.invokestatic 65, 3) := by decide +kernel
theorem dX0_becomes_115 : decode cX0_becomes 115 = .ok (.aload_n 1, 1) := by decide +kernel
theorem dX0_becomes_116 : decode cX0_becomes 116 = .ok (.getfield 28, 3) := by decide +kernel
theorem dX0_becomes_119 : decode cX0_becomes 119 = .ok (.iconst 0, 1) := by decide +kernel
theorem dX0_becomes_120 : decode cX0_becomes 120 = .ok (.aload_n 0, 1) := by decide +kernel
theorem dX0_becomes_121 : decode cX0_becomes 121 = .ok (.getfield 28, 3) := by decide +kernel
theorem dX0_becomes_124 : decode cX0_becomes 124 = .ok (.iconst 0, 1) := by decide +kernel
theorem dX0_becomes_125 : decode cX0_becomes 125 = .ok (.iconst 5, 1) := by decide +kernel
theorem dX0_becomes_126 : decode cX0_becomes 126 = .ok (.invokestatic 65, 3) := by decide +kernel
theorem dX0_becomes_129 : decode cX0_becomes 129 = .ok (.aload_n 1, 1) := by decide +kernel
theorem dX0_becomes_130 : decode cX0_becomes 130 = .ok (.getfield 31, 3) := by decide +kernel
theorem dX0_becomes_133 : decode cX0_becomes 133 = .ok (.iconst 0, 1) := by decide +kernel
theorem dX0_becomes_134 : decode cX0_becomes 134 = .ok (.aload_n 0, 1) := by decide +kernel
theorem dX0_becomes_135 : decode cX0_becomes 135 = .ok (.getfield 31, 3) := by decide +kernel
theorem dX0_becomes_138 : decode cX0_becomes 138 = .ok (.iconst 0, 1) := by decide +kernel
theorem dX0_becomes_139 : decode cX0_becomes 139 = .ok (.iconst 5, 1) := by decide +kernel
theorem dX0_becomes_140 : decode cX0_becomes 140 = .ok (.invokestatic 65, 3) := by decide +kernel
theorem dX0_becomes_143 : decode cX0_becomes 143 = .ok (.aload_n 1, 1) := by decide +kernel
theorem dX0_becomes_144 : decode cX0_becomes 144 = .ok (.getfield 34, 3) := by decide +kernel
theorem dX0_becomes_147 : decode cX0_becomes 147 = .ok (.iconst 0, 1) := by decide +kernel
theorem dX0_becomes_148 : decode cX0_becomes 148 = .ok (.aload_n 0, 1) := by decide +kernel
theorem dX0_becomes_149 : decode cX0_becomes 149 = .ok (.getfield 34, 3) := by decide +kernel
theorem dX0_becomes_152 : decode cX0_becomes 152 = .ok (.iconst 0, 1) := by decide +kernel
theorem dX0_becomes_153 : decode cX0_becomes 153 = .ok (.iconst 5, 1) := by decide +kernel
theorem dX0_becomes_154 : decode cX0_becomes 154 = .ok (.invokestatic 65, 3) := by decide +kernel
theorem dX0_becomes_157 : decode cX0_becomes 157 = .ok (.aload_n 1, 1) := by decide +kernel
theorem dX0_becomes_158 : decode cX0_becomes 158 = .ok (.getfield 37, 3) := by decide +kernel
theorem dX0_becomes_161 : decode cX0_becomes 161 = .ok (.iconst 0, 1) := by decide +kernel
theorem dX0_becomes_162 : decode cX0_becomes 162 = .ok (.aload_n 0, 1) := by decide +kernel
theorem dX0_becomes_163 : decode cX0_becomes 163 = .ok (.getfield 37, 3) := by decide +kernel
theorem dX0_becomes_166 : decode cX0_becomes 166 = .ok (.iconst 0, 1) := by decide +kernel
theorem dX0_becomes_167 : decode cX0_becomes 167 = .ok (.bipush 12, 2) := by decide +kernel
theorem dX0_becomes_169 : decode cX0_becomes 169 = .ok (.invokestatic 65, 3) := by decide +kernel
theorem dX0_becomes_172 : decode cX0_becomes 172 = .ok (.aload_n 1, 1) := by decide +kernel
theorem dX0_becomes_173 : decode cX0_becomes 173 = .ok (.getfield 40, 3) := by decide +kernel
theorem dX0_becomes_176 : decode cX0_becomes 176 = .ok (.iconst 0, 1) := by decide +kernel
theorem dX0_becomes_177 : decode cX0_becomes 177 = .ok (.aload_n 0, 1) := by decide +kernel
theorem dX0_becomes_178 : decode cX0_becomes 178 = .ok (.getfield 40, 3) := by decide +kernel
theorem dX0_becomes_181 : decode cX0_becomes 181 = .ok (.iconst 0, 1) := by decide +kernel
theorem dX0_becomes_182 : decode cX0_becomes 182 = .ok (.bipush 12, 2) := by decide +kernel
theorem dX0_becomes_184 : decode cX0_becomes 184 = .ok (.invokestatic 65, 3) := by decide +kernel
theorem dX0_becomes_187 : decode cX0_becomes 187 = .ok (.aload_n 1, 1) := by decide +kernel
theorem dX0_becomes_188 : decode cX0_becomes 188 = .ok (.getfield 43, 3) := by decide +kernel
theorem dX0_becomes_191 : decode cX0_becomes 191 = .ok (.iconst 0, 1) := by decide +kernel
theorem dX0_becomes_192 : decode cX0_becomes 192 = .ok (.aload_n 0, 1) := by decide +kernel
theorem dX0_becomes_193 : decode cX0_becomes 193 = .ok (.getfield 43, 3) := by decide +kernel
theorem dX0_becomes_196 : decode cX0_becomes 196 = .ok (.iconst 0, 1) := by decide +kernel
theorem dX0_becomes_197 : decode cX0_becomes 197 = .ok (.bipush 12, 2) := by decide +kernel
theorem dX0_becomes_199 : decode cX0_becomes 199 = .ok (.invokestatic 65, 3) := by decide +kernel
theorem dX0_becomes_202 : decode cX0_becomes 202 = .ok (.aload_n 1, 1) := by decide +kernel
theorem dX0_becomes_203 : decode cX0_becomes 203 = .ok (.getfield 46, 3) := by decide +kernel
theorem dX0_becomes_206 : decode cX0_becomes 206 = .ok (.iconst 0, 1) := by decide +kernel
theorem dX0_becomes_207 : decode cX0_becomes 207 = .ok (.aload_n 0, 1) := by decide +kernel
theorem dX0_becomes_208 : decode cX0_becomes 208 = .ok (.getfield 46, 3) := by decide +kernel
theorem dX0_becomes_211 : decode cX0_becomes 211 = .ok (.iconst 0, 1) := by decide +kernel
theorem dX0_becomes_212 : decode cX0_becomes 212 = .ok (.bipush 12, 2) := by decide +kernel
theorem dX0_becomes_214 : decode cX0_becomes 214 = .ok (.invokestatic 65, 3) := by decide +kernel
theorem dX0_becomes_217 : decode cX0_becomes 217 = .ok (.return_, 1) := by decide +kernel
theorem dX0_hasQuestion_0 : decode cX0_hasQuestion 0 = .ok (.iload_n 1, 1) := by decide +kernel
theorem dX0_hasQuestion_1 : decode cX0_hasQuestion 1 = .ok (.ifCond .lt 21, 3) := by decide +kernel
theorem dX0_hasQuestion_4 : decode cX0_hasQuestion 4 = .ok (.iload_n 1, 1) := by decide +kernel
theorem dX0_hasQuestion_5 : decode cX0_hasQuestion 5 = .ok (.aload_n 0, 1) := by decide +kernel
theorem dX0_hasQuestion_6 : decode cX0_hasQuestion 6 = .ok (.getfield 56, 3) := by decide +kernel
theorem dX0_hasQuestion_9 : decode cX0_hasQuestion 9 = .ok (.if_icmp .ge 13, 3) := by decide +kernel
theorem dX0_hasQuestion_12 : decode cX0_hasQuestion 12 = .ok (.iload_n 1, 1) := by decide +kernel
theorem dX0_hasQuestion_13 : decode cX0_hasQuestion 13 = .ok (.bipush 8, 2) := by decide +kernel
theorem dX0_hasQuestion_15 : decode cX0_hasQuestion 15 = .ok (.if_icmp .ge 7, 3) := by decide +kernel
theorem dX0_hasQuestion_18 : decode cX0_hasQuestion 18 = .ok (.iconst 1, 1) := by decide +kernel
theorem dX0_hasQuestion_19 : decode cX0_hasQuestion 19 = .ok (.goto 4, 3) := by decide +kernel
theorem dX0_hasQuestion_22 : decode cX0_hasQuestion 22 = .ok (.iconst 0, 1) := by decide +kernel
theorem dX0_hasQuestion_23 : decode cX0_hasQuestion 23 = .ok (.ireturn, 1) := by decide +kernel
theorem dX0_hasWitness_0 : decode cX0_hasWitness 0 = .ok (.iload_n 1, 1) := by decide +kernel
theorem dX0_hasWitness_1 : decode cX0_hasWitness 1 = .ok (.ifCond .lt 20, 3) := by decide +kernel
theorem dX0_hasWitness_4 : decode cX0_hasWitness 4 = .ok (.iload_n 1, 1) := by decide +kernel
theorem dX0_hasWitness_5 : decode cX0_hasWitness 5 = .ok (.aload_n 0, 1) := by decide +kernel
theorem dX0_hasWitness_6 : decode cX0_hasWitness 6 = .ok (.getfield 59, 3) := by decide +kernel
theorem dX0_hasWitness_9 : decode cX0_hasWitness 9 = .ok (.if_icmp .ge 12, 3) := by decide +kernel
theorem dX0_hasWitness_12 : decode cX0_hasWitness 12 = .ok (.iload_n 1, 1) := by decide +kernel
theorem dX0_hasWitness_13 : decode cX0_hasWitness 13 = .ok (.iconst 5, 1) := by decide +kernel
theorem dX0_hasWitness_14 : decode cX0_hasWitness 14 = .ok (.if_icmp .ge 7, 3) := by decide +kernel
theorem dX0_hasWitness_17 : decode cX0_hasWitness 17 = .ok (.iconst 1, 1) := by decide +kernel
theorem dX0_hasWitness_18 : decode cX0_hasWitness 18 = .ok (.goto 4, 3) := by decide +kernel
theorem dX0_hasWitness_21 : decode cX0_hasWitness 21 = .ok (.iconst 0, 1) := by decide +kernel
theorem dX0_hasWitness_22 : decode cX0_hasWitness 22 = .ok (.ireturn, 1) := by decide +kernel
theorem dX0_hasPlace_0 : decode cX0_hasPlace 0 = .ok (.iload_n 1, 1) := by decide +kernel
theorem dX0_hasPlace_1 : decode cX0_hasPlace 1 = .ok (.ifCond .lt 21, 3) := by decide +kernel
theorem dX0_hasPlace_4 : decode cX0_hasPlace 4 = .ok (.iload_n 1, 1) := by decide +kernel
theorem dX0_hasPlace_5 : decode cX0_hasPlace 5 = .ok (.aload_n 0, 1) := by decide +kernel
theorem dX0_hasPlace_6 : decode cX0_hasPlace 6 = .ok (.getfield 62, 3) := by decide +kernel
theorem dX0_hasPlace_9 : decode cX0_hasPlace 9 = .ok (.if_icmp .ge 13, 3) := by decide +kernel
theorem dX0_hasPlace_12 : decode cX0_hasPlace 12 = .ok (.iload_n 1, 1) := by decide +kernel
theorem dX0_hasPlace_13 : decode cX0_hasPlace 13 = .ok (.bipush 12, 2) := by decide +kernel
theorem dX0_hasPlace_15 : decode cX0_hasPlace 15 = .ok (.if_icmp .ge 7, 3) := by decide +kernel
theorem dX0_hasPlace_18 : decode cX0_hasPlace 18 = .ok (.iconst 1, 1) := by decide +kernel
theorem dX0_hasPlace_19 : decode cX0_hasPlace 19 = .ok (.goto 4, 3) := by decide +kernel
theorem dX0_hasPlace_22 : decode cX0_hasPlace 22 = .ok (.iconst 0, 1) := by decide +kernel
theorem dX0_hasPlace_23 : decode cX0_hasPlace 23 = .ok (.ireturn, 1) := by decide +kernel
set_option maxRecDepth 20000 in
theorem ggX0_flipFact_X2_isFact : GoodIn wsX0_flipFact wsX2_isFact := goodIn_r _ [4] (by decide +kernel) (by decide +kernel)
set_option maxRecDepth 20000 in
theorem gX0_flipFact_X2_isFact_n71 : GoodIn wsX0_flipFact (wsX2_isFact) := ggX0_flipFact_X2_isFact
theorem dX0_flipFact_0 : decode cX0_flipFact 0 = .ok (.iload_n 1, 1) := by decide +kernel
theorem dX0_flipFact_1 : decode cX0_flipFact 1 = .ok (.invokestatic 71, 3) := by decide +kernel
theorem dX0_flipFact_4 : decode cX0_flipFact 4 = .ok (.ifCond .ne 5, 3) := by decide +kernel
theorem dX0_flipFact_7 : decode cX0_flipFact 7 = .ok (.iconst 0, 1) := by decide +kernel
theorem dX0_flipFact_8 : decode cX0_flipFact 8 = .ok (.ireturn, 1) := by decide +kernel
theorem dX0_flipFact_9 : decode cX0_flipFact 9 = .ok (.aload_n 0, 1) := by decide +kernel
theorem dX0_flipFact_10 : decode cX0_flipFact 10 = .ok (.dup, 1) := by decide +kernel
theorem dX0_flipFact_11 : decode cX0_flipFact 11 = .ok (.getfield 49, 3) := by decide +kernel
theorem dX0_flipFact_14 : decode cX0_flipFact 14 = .ok (.iconst 1, 1) := by decide +kernel
theorem dX0_flipFact_15 : decode cX0_flipFact 15 = .ok (.iload_n 1, 1) := by decide +kernel
theorem dX0_flipFact_16 : decode cX0_flipFact 16 = .ok (.ishl, 1) := by decide +kernel
theorem dX0_flipFact_17 : decode cX0_flipFact 17 = .ok (.ixor, 1) := by decide +kernel
theorem dX0_flipFact_18 : decode cX0_flipFact 18 = .ok (.putfield 49, 3) := by decide +kernel
theorem dX0_flipFact_21 : decode cX0_flipFact 21 = .ok (.iconst 1, 1) := by decide +kernel
theorem dX0_flipFact_22 : decode cX0_flipFact 22 = .ok (.ireturn, 1) := by decide +kernel
set_option maxRecDepth 20000 in
theorem ggX0_addQuestion_X2_isFact : GoodIn wsX0_addQuestion wsX2_isFact := goodIn_r _ [9] (by decide +kernel) (by decide +kernel)
set_option maxRecDepth 20000 in
theorem gX0_addQuestion_X2_isFact_n71 : GoodIn wsX0_addQuestion (wsX2_isFact) := ggX0_addQuestion_X2_isFact
set_option maxRecDepth 20000 in
theorem ggX0_addQuestion_X2_factCases : GoodIn wsX0_addQuestion wsX2_factCases := goodIn_r _ [11, 12, 13, 7, 8, 9] (by decide +kernel) (by decide +kernel)
set_option maxRecDepth 20000 in
theorem gX0_addQuestion_X2_factCases_n75 : GoodIn wsX0_addQuestion (wsX2_factCases) := ggX0_addQuestion_X2_factCases
set_option maxRecDepth 20000 in
theorem ggX0_addQuestion_X0_casesSo : GoodIn wsX0_addQuestion wsX0_casesSo := goodIn_r _ [17, 18] (by decide +kernel) (by decide +kernel)
set_option maxRecDepth 20000 in
theorem gX0_addQuestion_X0_casesSo : GoodIn wsX0_addQuestion (va_wsS RX0 79 yX0_casesSo wsX0_casesSo) := goodIn_app (goodIn_of _ (by decide +kernel)) ggX0_addQuestion_X0_casesSo
theorem dX0_addQuestion_0 : decode cX0_addQuestion 0 = .ok (.iload_n 1, 1) := by decide +kernel
theorem dX0_addQuestion_1 : decode cX0_addQuestion 1 = .ok (.ifCond .lt 26, 3) := by decide +kernel
theorem dX0_addQuestion_4 : decode cX0_addQuestion 4 = .ok (.iload_n 1, 1) := by decide +kernel
theorem dX0_addQuestion_5 : decode cX0_addQuestion 5 = .ok (.iconst 5, 1) := by decide +kernel
theorem dX0_addQuestion_6 : decode cX0_addQuestion 6 = .ok (.if_icmp .ge 21, 3) := by decide +kernel
theorem dX0_addQuestion_9 : decode cX0_addQuestion 9 = .ok (.iload_n 2, 1) := by decide +kernel
theorem dX0_addQuestion_10 : decode cX0_addQuestion 10 = .ok (.invokestatic 71, 3) := by decide +kernel
theorem dX0_addQuestion_13 : decode cX0_addQuestion 13 = .ok (.ifCond .eq 14, 3) := by decide +kernel
theorem dX0_addQuestion_16 : decode cX0_addQuestion 16 = .ok (.iload_n 3, 1) := by decide +kernel
theorem dX0_addQuestion_17 : decode cX0_addQuestion 17 = .ok (.invokestatic 71, 3) := by decide +kernel
theorem dX0_addQuestion_20 : decode cX0_addQuestion 20 = .ok (.ifCond .eq 7, 3) := by decide +kernel
theorem dX0_addQuestion_23 : decode cX0_addQuestion 23 = .ok (.iconst 1, 1) := by decide +kernel
theorem dX0_addQuestion_24 : decode cX0_addQuestion 24 = .ok (.goto 4, 3) := by decide +kernel
theorem dX0_addQuestion_27 : decode cX0_addQuestion 27 = .ok (.iconst 0, 1) := by decide +kernel
theorem dX0_addQuestion_28 : decode cX0_addQuestion 28 = .ok (.istore 4, 2) := by decide +kernel
theorem dX0_addQuestion_30 : decode cX0_addQuestion 30 = .ok (.iload 4, 2) := by decide +kernel
theorem dX0_addQuestion_32 : decode cX0_addQuestion 32 = .ok (.ifCond .eq 12, 3) := by decide +kernel
theorem dX0_addQuestion_35 : decode cX0_addQuestion 35 = .ok (.aload_n 0, 1) := by decide +kernel
theorem dX0_addQuestion_36 : decode cX0_addQuestion 36 = .ok (.getfield 56, 3) := by decide +kernel
theorem dX0_addQuestion_39 : decode cX0_addQuestion 39 = .ok (.bipush 8, 2) := by decide +kernel
theorem dX0_addQuestion_41 : decode cX0_addQuestion 41 = .ok (.if_icmp .lt 5, 3) := by decide +kernel
theorem dX0_addQuestion_44 : decode cX0_addQuestion 44 = .ok (.iconst 0, 1) := by decide +kernel
theorem dX0_addQuestion_45 : decode cX0_addQuestion 45 = .ok (.ireturn, 1) := by decide +kernel
theorem dX0_addQuestion_46 : decode cX0_addQuestion 46 = .ok (.aload_n 0, 1) := by decide +kernel
theorem dX0_addQuestion_47 : decode cX0_addQuestion 47 = .ok (.getfield 9, 3) := by decide +kernel
theorem dX0_addQuestion_50 : decode cX0_addQuestion 50 = .ok (.aload_n 0, 1) := by decide +kernel
theorem dX0_addQuestion_51 : decode cX0_addQuestion 51 = .ok (.getfield 56, 3) := by decide +kernel
theorem dX0_addQuestion_54 : decode cX0_addQuestion 54 = .ok (.iload_n 1, 1) := by decide +kernel
theorem dX0_addQuestion_55 : decode cX0_addQuestion 55 = .ok (.iastore, 1) := by decide +kernel
theorem dX0_addQuestion_56 : decode cX0_addQuestion 56 = .ok (.aload_n 0, 1) := by decide +kernel
theorem dX0_addQuestion_57 : decode cX0_addQuestion 57 = .ok (.getfield 15, 3) := by decide +kernel
theorem dX0_addQuestion_60 : decode cX0_addQuestion 60 = .ok (.aload_n 0, 1) := by decide +kernel
theorem dX0_addQuestion_61 : decode cX0_addQuestion 61 = .ok (.getfield 56, 3) := by decide +kernel
theorem dX0_addQuestion_64 : decode cX0_addQuestion 64 = .ok (.iload_n 2, 1) := by decide +kernel
theorem dX0_addQuestion_65 : decode cX0_addQuestion 65 = .ok (.iastore, 1) := by decide +kernel
theorem dX0_addQuestion_66 : decode cX0_addQuestion 66 = .ok (.aload_n 0, 1) := by decide +kernel
theorem dX0_addQuestion_67 : decode cX0_addQuestion 67 = .ok (.getfield 18, 3) := by decide +kernel
theorem dX0_addQuestion_70 : decode cX0_addQuestion 70 = .ok (.aload_n 0, 1) := by decide +kernel
theorem dX0_addQuestion_71 : decode cX0_addQuestion 71 = .ok (.getfield 56, 3) := by decide +kernel
theorem dX0_addQuestion_74 : decode cX0_addQuestion 74 = .ok (.iload_n 3, 1) := by decide +kernel
theorem dX0_addQuestion_75 : decode cX0_addQuestion 75 = .ok (.iastore, 1) := by decide +kernel
theorem dX0_addQuestion_76 : decode cX0_addQuestion 76 = .ok (.aload_n 0, 1) := by decide +kernel
theorem dX0_addQuestion_77 : decode cX0_addQuestion 77 = .ok (.getfield 21, 3) := by decide +kernel
theorem dX0_addQuestion_80 : decode cX0_addQuestion 80 = .ok (.aload_n 0, 1) := by decide +kernel
theorem dX0_addQuestion_81 : decode cX0_addQuestion 81 = .ok (.getfield 56, 3) := by decide +kernel
theorem dX0_addQuestion_84 : decode cX0_addQuestion 84 = .ok (.iload_n 1, 1) := by decide +kernel
theorem dX0_addQuestion_85 : decode cX0_addQuestion 85 = .ok (.iconst 2, 1) := by decide +kernel
theorem dX0_addQuestion_86 : decode cX0_addQuestion 86 = .ok (.if_icmp .lt 13, 3) := by decide +kernel
theorem dX0_addQuestion_89 : decode cX0_addQuestion 89 = .ok (.iconst 1, 1) := by decide +kernel
theorem dX0_addQuestion_90 : decode cX0_addQuestion 90 = .ok (.iload_n 2, 1) := by decide +kernel
theorem dX0_addQuestion_91 : decode cX0_addQuestion 91 = .ok (.ishl, 1) := by decide +kernel
theorem dX0_addQuestion_92 : decode cX0_addQuestion 92 = .ok (.iconst 1, 1) := by decide +kernel
theorem dX0_addQuestion_93 : decode cX0_addQuestion 93 = .ok (.iload_n 3, 1) := by decide +kernel
theorem dX0_addQuestion_94 : decode cX0_addQuestion 94 = .ok (.ishl, 1) := by decide +kernel
theorem dX0_addQuestion_95 : decode cX0_addQuestion 95 = .ok (.ior, 1) := by decide +kernel
theorem dX0_addQuestion_96 : decode cX0_addQuestion 96 = .ok (.goto 6, 3) := by decide +kernel
theorem dX0_addQuestion_99 : decode cX0_addQuestion 99 = .ok (.iconst 1, 1) := by decide +kernel
theorem dX0_addQuestion_100 : decode cX0_addQuestion 100 = .ok (.iload_n 2, 1) := by decide +kernel
theorem dX0_addQuestion_101 : decode cX0_addQuestion 101 = .ok (.ishl, 1) := by decide +kernel
theorem dX0_addQuestion_102 : decode cX0_addQuestion 102 = .ok (.iastore, 1) := by decide +kernel
theorem dX0_addQuestion_103 : decode cX0_addQuestion 103 = .ok (.aload_n 0, 1) := by decide +kernel
theorem dX0_addQuestion_104 : decode cX0_addQuestion 104 = .ok (.getfield 24, 3) := by decide +kernel
theorem dX0_addQuestion_107 : decode cX0_addQuestion 107 = .ok (.aload_n 0, 1) := by decide +kernel
theorem dX0_addQuestion_108 : decode cX0_addQuestion 108 = .ok (.getfield 56, 3) := by decide +kernel
theorem dX0_addQuestion_111 : decode cX0_addQuestion 111 = .ok (.iload_n 1, 1) := by decide +kernel
theorem dX0_addQuestion_112 : decode cX0_addQuestion 112 = .ok (.iload_n 2, 1) := by decide +kernel
theorem dX0_addQuestion_113 : decode cX0_addQuestion 113 = .ok (.invokestatic 75, 3) := by decide +kernel
theorem dX0_addQuestion_116 : decode cX0_addQuestion 116 = .ok (.iload_n 3, 1) := by decide +kernel
theorem dX0_addQuestion_117 : decode cX0_addQuestion 117 = .ok (.invokestatic 75, 3) := by decide +kernel
theorem dX0_addQuestion_120 : decode cX0_addQuestion 120 = .ok (.invokestatic 79, 3) := by decide +kernel
theorem dX0_addQuestion_123 : decode cX0_addQuestion 123 = .ok (.lastore, 1) := by decide +kernel
theorem dX0_addQuestion_124 : decode cX0_addQuestion 124 = .ok (.aload_n 0, 1) := by decide +kernel
theorem dX0_addQuestion_125 : decode cX0_addQuestion 125 = .ok (.dup, 1) := by decide +kernel
theorem dX0_addQuestion_126 : decode cX0_addQuestion 126 = .ok (.getfield 56, 3) := by decide +kernel
theorem dX0_addQuestion_129 : decode cX0_addQuestion 129 = .ok (.iconst 1, 1) := by decide +kernel
theorem dX0_addQuestion_130 : decode cX0_addQuestion 130 = .ok (.iadd, 1) := by decide +kernel
theorem dX0_addQuestion_131 : decode cX0_addQuestion 131 = .ok (.putfield 56, 3) := by decide +kernel
theorem dX0_addQuestion_134 : decode cX0_addQuestion 134 = .ok (.iconst 1, 1) := by decide +kernel
theorem dX0_addQuestion_135 : decode cX0_addQuestion 135 = .ok (.ireturn, 1) := by decide +kernel
theorem dX0_addWitness_0 : decode cX0_addWitness 0 = .ok (.iload_n 1, 1) := by decide +kernel
theorem dX0_addWitness_1 : decode cX0_addWitness 1 = .ok (.ifCond .lt 33, 3) := by decide +kernel
theorem dX0_addWitness_4 : decode cX0_addWitness 4 = .ok (.iload_n 1, 1) := by decide +kernel
theorem dX0_addWitness_5 : decode cX0_addWitness 5 = .ok (.bipush 6, 2) := by decide +kernel
theorem dX0_addWitness_7 : decode cX0_addWitness 7 = .ok (.if_icmp .ge 27, 3) := by decide +kernel
theorem dX0_addWitness_10 : decode cX0_addWitness 10 = .ok (.iload_n 2, 1) := by decide +kernel
theorem dX0_addWitness_11 : decode cX0_addWitness 11 = .ok (.ifCond .lt 23, 3) := by decide +kernel
theorem dX0_addWitness_14 : decode cX0_addWitness 14 = .ok (.iload_n 2, 1) := by decide +kernel
theorem dX0_addWitness_15 : decode cX0_addWitness 15 = .ok (.bipush 9, 2) := by decide +kernel
theorem dX0_addWitness_17 : decode cX0_addWitness 17 = .ok (.if_icmp .gt 17, 3) := by decide +kernel
theorem dX0_addWitness_20 : decode cX0_addWitness 20 = .ok (.iload_n 3, 1) := by decide +kernel
theorem dX0_addWitness_21 : decode cX0_addWitness 21 = .ok (.ifCond .lt 13, 3) := by decide +kernel
theorem dX0_addWitness_24 : decode cX0_addWitness 24 = .ok (.iload_n 3, 1) := by decide +kernel
theorem dX0_addWitness_25 : decode cX0_addWitness 25 = .ok (.bipush 63, 2) := by decide +kernel
theorem dX0_addWitness_27 : decode cX0_addWitness 27 = .ok (.if_icmp .gt 7, 3) := by decide +kernel
theorem dX0_addWitness_30 : decode cX0_addWitness 30 = .ok (.iconst 1, 1) := by decide +kernel
theorem dX0_addWitness_31 : decode cX0_addWitness 31 = .ok (.goto 4, 3) := by decide +kernel
theorem dX0_addWitness_34 : decode cX0_addWitness 34 = .ok (.iconst 0, 1) := by decide +kernel
theorem dX0_addWitness_35 : decode cX0_addWitness 35 = .ok (.istore 4, 2) := by decide +kernel
theorem dX0_addWitness_37 : decode cX0_addWitness 37 = .ok (.iload 4, 2) := by decide +kernel
theorem dX0_addWitness_39 : decode cX0_addWitness 39 = .ok (.ifCond .eq 11, 3) := by decide +kernel
theorem dX0_addWitness_42 : decode cX0_addWitness 42 = .ok (.aload_n 0, 1) := by decide +kernel
theorem dX0_addWitness_43 : decode cX0_addWitness 43 = .ok (.getfield 59, 3) := by decide +kernel
theorem dX0_addWitness_46 : decode cX0_addWitness 46 = .ok (.iconst 5, 1) := by decide +kernel
theorem dX0_addWitness_47 : decode cX0_addWitness 47 = .ok (.if_icmp .lt 5, 3) := by decide +kernel
theorem dX0_addWitness_50 : decode cX0_addWitness 50 = .ok (.iconst 0, 1) := by decide +kernel
theorem dX0_addWitness_51 : decode cX0_addWitness 51 = .ok (.ireturn, 1) := by decide +kernel
theorem dX0_addWitness_52 : decode cX0_addWitness 52 = .ok (.aload_n 0, 1) := by decide +kernel
theorem dX0_addWitness_53 : decode cX0_addWitness 53 = .ok (.getfield 28, 3) := by decide +kernel
theorem dX0_addWitness_56 : decode cX0_addWitness 56 = .ok (.aload_n 0, 1) := by decide +kernel
theorem dX0_addWitness_57 : decode cX0_addWitness 57 = .ok (.getfield 59, 3) := by decide +kernel
theorem dX0_addWitness_60 : decode cX0_addWitness 60 = .ok (.iload_n 1, 1) := by decide +kernel
theorem dX0_addWitness_61 : decode cX0_addWitness 61 = .ok (.iastore, 1) := by decide +kernel
theorem dX0_addWitness_62 : decode cX0_addWitness 62 = .ok (.aload_n 0, 1) := by decide +kernel
theorem dX0_addWitness_63 : decode cX0_addWitness 63 = .ok (.getfield 31, 3) := by decide +kernel
theorem dX0_addWitness_66 : decode cX0_addWitness 66 = .ok (.aload_n 0, 1) := by decide +kernel
theorem dX0_addWitness_67 : decode cX0_addWitness 67 = .ok (.getfield 59, 3) := by decide +kernel
theorem dX0_addWitness_70 : decode cX0_addWitness 70 = .ok (.iload_n 2, 1) := by decide +kernel
theorem dX0_addWitness_71 : decode cX0_addWitness 71 = .ok (.iastore, 1) := by decide +kernel
theorem dX0_addWitness_72 : decode cX0_addWitness 72 = .ok (.aload_n 0, 1) := by decide +kernel
theorem dX0_addWitness_73 : decode cX0_addWitness 73 = .ok (.getfield 34, 3) := by decide +kernel
theorem dX0_addWitness_76 : decode cX0_addWitness 76 = .ok (.aload_n 0, 1) := by decide +kernel
theorem dX0_addWitness_77 : decode cX0_addWitness 77 = .ok (.getfield 59, 3) := by decide +kernel
theorem dX0_addWitness_80 : decode cX0_addWitness 80 = .ok (.iload_n 3, 1) := by decide +kernel
theorem dX0_addWitness_81 : decode cX0_addWitness 81 = .ok (.iastore, 1) := by decide +kernel
theorem dX0_addWitness_82 : decode cX0_addWitness 82 = .ok (.aload_n 0, 1) := by decide +kernel
theorem dX0_addWitness_83 : decode cX0_addWitness 83 = .ok (.dup, 1) := by decide +kernel
theorem dX0_addWitness_84 : decode cX0_addWitness 84 = .ok (.getfield 59, 3) := by decide +kernel
theorem dX0_addWitness_87 : decode cX0_addWitness 87 = .ok (.iconst 1, 1) := by decide +kernel
theorem dX0_addWitness_88 : decode cX0_addWitness 88 = .ok (.iadd, 1) := by decide +kernel
theorem dX0_addWitness_89 : decode cX0_addWitness 89 = .ok (.putfield 59, 3) := by decide +kernel
theorem dX0_addWitness_92 : decode cX0_addWitness 92 = .ok (.iconst 1, 1) := by decide +kernel
theorem dX0_addWitness_93 : decode cX0_addWitness 93 = .ok (.ireturn, 1) := by decide +kernel
set_option maxRecDepth 20000 in
theorem ggX0_flipKnown_X0_hasWitness : GoodIn wsX0_flipKnown wsX0_hasWitness := goodIn_r _ [6, 7, 11, 12, 13, 14, 15, 16, 17, 18, 19, 20, 21, 22, 23, 24, 25, 26, 27] (by decide +kernel) (by decide +kernel)
set_option maxRecDepth 20000 in
theorem gX0_flipKnown_X0_hasWitness : GoodIn wsX0_flipKnown (wsV RX0 83 RX0 yX0_hasWitness wsX0_hasWitness) := goodIn_app (goodIn_of _ (by decide +kernel)) ggX0_flipKnown_X0_hasWitness
set_option maxRecDepth 20000 in
theorem ggX0_flipKnown_X2_isFact : GoodIn wsX0_flipKnown wsX2_isFact := goodIn_r _ [10] (by decide +kernel) (by decide +kernel)
set_option maxRecDepth 20000 in
theorem gX0_flipKnown_X2_isFact_n71 : GoodIn wsX0_flipKnown (wsX2_isFact) := ggX0_flipKnown_X2_isFact
theorem dX0_flipKnown_0 : decode cX0_flipKnown 0 = .ok (.aload_n 0, 1) := by decide +kernel
theorem dX0_flipKnown_1 : decode cX0_flipKnown 1 = .ok (.iload_n 1, 1) := by decide +kernel
theorem dX0_flipKnown_2 : decode cX0_flipKnown 2 = .ok (.invokevirtual 83, 3) := by decide +kernel
theorem dX0_flipKnown_5 : decode cX0_flipKnown 5 = .ok (.ifCond .eq 10, 3) := by decide +kernel
theorem dX0_flipKnown_8 : decode cX0_flipKnown 8 = .ok (.iload_n 2, 1) := by decide +kernel
theorem dX0_flipKnown_9 : decode cX0_flipKnown 9 = .ok (.invokestatic 71, 3) := by decide +kernel
theorem dX0_flipKnown_12 : decode cX0_flipKnown 12 = .ok (.ifCond .ne 5, 3) := by decide +kernel
theorem dX0_flipKnown_15 : decode cX0_flipKnown 15 = .ok (.iconst 0, 1) := by decide +kernel
theorem dX0_flipKnown_16 : decode cX0_flipKnown 16 = .ok (.ireturn, 1) := by decide +kernel
theorem dX0_flipKnown_17 : decode cX0_flipKnown 17 = .ok (.aload_n 0, 1) := by decide +kernel
theorem dX0_flipKnown_18 : decode cX0_flipKnown 18 = .ok (.getfield 34, 3) := by decide +kernel
theorem dX0_flipKnown_21 : decode cX0_flipKnown 21 = .ok (.iload_n 1, 1) := by decide +kernel
theorem dX0_flipKnown_22 : decode cX0_flipKnown 22 = .ok (.dup2, 1) := by decide +kernel
theorem dX0_flipKnown_23 : decode cX0_flipKnown 23 = .ok (.iaload, 1) := by decide +kernel
theorem dX0_flipKnown_24 : decode cX0_flipKnown 24 = .ok (.iconst 1, 1) := by decide +kernel
theorem dX0_flipKnown_25 : decode cX0_flipKnown 25 = .ok (.iload_n 2, 1) := by decide +kernel
theorem dX0_flipKnown_26 : decode cX0_flipKnown 26 = .ok (.ishl, 1) := by decide +kernel
theorem dX0_flipKnown_27 : decode cX0_flipKnown 27 = .ok (.ixor, 1) := by decide +kernel
theorem dX0_flipKnown_28 : decode cX0_flipKnown 28 = .ok (.iastore, 1) := by decide +kernel
theorem dX0_flipKnown_29 : decode cX0_flipKnown 29 = .ok (.iconst 1, 1) := by decide +kernel
theorem dX0_flipKnown_30 : decode cX0_flipKnown 30 = .ok (.ireturn, 1) := by decide +kernel
set_option maxRecDepth 20000 in
theorem ggX0_canAsk_X0_hasWitness : GoodIn wsX0_canAsk wsX0_hasWitness := goodIn_r _ [6, 7, 13, 14, 15, 16, 17, 18, 19, 20, 21, 22, 23, 24, 25, 26, 27, 28, 29] (by decide +kernel) (by decide +kernel)
set_option maxRecDepth 20000 in
theorem gX0_canAsk_X0_hasWitness : GoodIn wsX0_canAsk (wsV RX0 83 RX0 yX0_hasWitness wsX0_hasWitness) := goodIn_app (goodIn_of _ (by decide +kernel)) ggX0_canAsk_X0_hasWitness
set_option maxRecDepth 20000 in
theorem ggX0_canAsk_X0_hasQuestion : GoodIn wsX0_canAsk wsX0_hasQuestion := goodIn_r _ [11, 12, 13, 14, 15, 16, 17, 18, 19, 20, 21, 22, 23, 24, 25, 26, 27, 28, 29] (by decide +kernel) (by decide +kernel)
set_option maxRecDepth 20000 in
theorem gX0_canAsk_X0_hasQuestion : GoodIn wsX0_canAsk (wsV RX0 86 RX0 yX0_hasQuestion wsX0_hasQuestion) := goodIn_app (goodIn_of _ (by decide +kernel)) ggX0_canAsk_X0_hasQuestion
theorem dX0_canAsk_0 : decode cX0_canAsk 0 = .ok (.aload_n 0, 1) := by decide +kernel
theorem dX0_canAsk_1 : decode cX0_canAsk 1 = .ok (.iload_n 1, 1) := by decide +kernel
theorem dX0_canAsk_2 : decode cX0_canAsk 2 = .ok (.invokevirtual 83, 3) := by decide +kernel
theorem dX0_canAsk_5 : decode cX0_canAsk 5 = .ok (.ifCond .eq 25, 3) := by decide +kernel
theorem dX0_canAsk_8 : decode cX0_canAsk 8 = .ok (.aload_n 0, 1) := by decide +kernel
theorem dX0_canAsk_9 : decode cX0_canAsk 9 = .ok (.iload_n 2, 1) := by decide +kernel
theorem dX0_canAsk_10 : decode cX0_canAsk 10 = .ok (.invokevirtual 86, 3) := by decide +kernel
theorem dX0_canAsk_13 : decode cX0_canAsk 13 = .ok (.ifCond .eq 17, 3) := by decide +kernel
theorem dX0_canAsk_16 : decode cX0_canAsk 16 = .ok (.aload_n 0, 1) := by decide +kernel
theorem dX0_canAsk_17 : decode cX0_canAsk 17 = .ok (.getfield 53, 3) := by decide +kernel
theorem dX0_canAsk_20 : decode cX0_canAsk 20 = .ok (.sipush 999, 3) := by decide +kernel
theorem dX0_canAsk_23 : decode cX0_canAsk 23 = .ok (.if_icmp .ge 7, 3) := by decide +kernel
theorem dX0_canAsk_26 : decode cX0_canAsk 26 = .ok (.iconst 1, 1) := by decide +kernel
theorem dX0_canAsk_27 : decode cX0_canAsk 27 = .ok (.goto 4, 3) := by decide +kernel
theorem dX0_canAsk_30 : decode cX0_canAsk 30 = .ok (.iconst 0, 1) := by decide +kernel
theorem dX0_canAsk_31 : decode cX0_canAsk 31 = .ok (.ireturn, 1) := by decide +kernel
set_option maxRecDepth 20000 in
theorem ggX0_ask_X0_reply : GoodIn wsX0_ask wsX0_reply := goodIn_r _ [12, 13, 14, 15, 11, 16, 17, 18, 19, 20, 21, 22, 23, 24, 25, 26, 27, 28, 29, 30, 31, 32, 33, 34, 35, 36, 37, 38, 39, 40, 41, 42, 43, 44, 45, 46, 47, 48, 49, 50, 51, 52, 53, 54, 55, 64, 65, 66, 67, 68, 69, 70, 71, 72, 73, 74, 75, 76, 77, 78, 79, 80] (by decide +kernel) (by decide +kernel)
set_option maxRecDepth 20000 in
theorem gX0_ask_X0_reply : GoodIn wsX0_ask (wsV RX0 89 RX0 yX0_reply wsX0_reply) := goodIn_app (goodIn_of _ (by decide +kernel)) ggX0_ask_X0_reply
set_option maxRecDepth 20000 in
theorem ggX0_ask_X0_dropFirstHeard : GoodIn wsX0_ask wsX0_dropFirstHeard := goodIn_r _ [59, 3, 4, 60, 61, 62, 63, 5, 6, 7, 64, 65, 66, 67, 68, 69, 70, 71, 72, 73, 74, 75, 76, 77, 78, 79, 80] (by decide +kernel) (by decide +kernel)
set_option maxRecDepth 20000 in
theorem gX0_ask_X0_dropFirstHeard : GoodIn wsX0_ask (wsV RX0 93 RX0 yX0_dropFirstHeard wsX0_dropFirstHeard) := goodIn_app (goodIn_of _ (by decide +kernel)) ggX0_ask_X0_dropFirstHeard
theorem dX0_ask_0 : decode cX0_ask 0 = .ok (.aload_n 0, 1) := by decide +kernel
theorem dX0_ask_1 : decode cX0_ask 1 = .ok (.dup, 1) := by decide +kernel
theorem dX0_ask_2 : decode cX0_ask 2 = .ok (.getfield 53, 3) := by decide +kernel
theorem dX0_ask_5 : decode cX0_ask 5 = .ok (.iconst 1, 1) := by decide +kernel
theorem dX0_ask_6 : decode cX0_ask 6 = .ok (.iadd, 1) := by decide +kernel
theorem dX0_ask_7 : decode cX0_ask 7 = .ok (.putfield 53, 3) := by decide +kernel
theorem dX0_ask_10 : decode cX0_ask 10 = .ok (.aload_n 0, 1) := by decide +kernel
theorem dX0_ask_11 : decode cX0_ask 11 = .ok (.iload_n 1, 1) := by decide +kernel
theorem dX0_ask_12 : decode cX0_ask 12 = .ok (.iload_n 2, 1) := by decide +kernel
theorem dX0_ask_13 : decode cX0_ask 13 = .ok (.aload_n 0, 1) := by decide +kernel
theorem dX0_ask_14 : decode cX0_ask 14 = .ok (.getfield 53, 3) := by decide +kernel
theorem dX0_ask_17 : decode cX0_ask 17 = .ok (.aload_n 0, 1) := by decide +kernel
theorem dX0_ask_18 : decode cX0_ask 18 = .ok (.getfield 49, 3) := by decide +kernel
theorem dX0_ask_21 : decode cX0_ask 21 = .ok (.invokevirtual 89, 3) := by decide +kernel
theorem dX0_ask_24 : decode cX0_ask 24 = .ok (.istore_n 3, 1) := by decide +kernel
theorem dX0_ask_25 : decode cX0_ask 25 = .ok (.aload_n 0, 1) := by decide +kernel
theorem dX0_ask_26 : decode cX0_ask 26 = .ok (.getfield 62, 3) := by decide +kernel
theorem dX0_ask_29 : decode cX0_ask 29 = .ok (.bipush 12, 2) := by decide +kernel
theorem dX0_ask_31 : decode cX0_ask 31 = .ok (.if_icmp .lt 7, 3) := by decide +kernel
theorem dX0_ask_34 : decode cX0_ask 34 = .ok (.aload_n 0, 1) := by decide +kernel
theorem dX0_ask_35 : decode cX0_ask 35 = .ok (.invokevirtual 93, 3) := by decide +kernel
theorem dX0_ask_38 : decode cX0_ask 38 = .ok (.aload_n 0, 1) := by decide +kernel
theorem dX0_ask_39 : decode cX0_ask 39 = .ok (.getfield 37, 3) := by decide +kernel
theorem dX0_ask_42 : decode cX0_ask 42 = .ok (.aload_n 0, 1) := by decide +kernel
theorem dX0_ask_43 : decode cX0_ask 43 = .ok (.getfield 62, 3) := by decide +kernel
theorem dX0_ask_46 : decode cX0_ask 46 = .ok (.iload_n 1, 1) := by decide +kernel
theorem dX0_ask_47 : decode cX0_ask 47 = .ok (.iastore, 1) := by decide +kernel
theorem dX0_ask_48 : decode cX0_ask 48 = .ok (.aload_n 0, 1) := by decide +kernel
theorem dX0_ask_49 : decode cX0_ask 49 = .ok (.getfield 40, 3) := by decide +kernel
theorem dX0_ask_52 : decode cX0_ask 52 = .ok (.aload_n 0, 1) := by decide +kernel
theorem dX0_ask_53 : decode cX0_ask 53 = .ok (.getfield 62, 3) := by decide +kernel
theorem dX0_ask_56 : decode cX0_ask 56 = .ok (.iload_n 2, 1) := by decide +kernel
theorem dX0_ask_57 : decode cX0_ask 57 = .ok (.iastore, 1) := by decide +kernel
theorem dX0_ask_58 : decode cX0_ask 58 = .ok (.aload_n 0, 1) := by decide +kernel
theorem dX0_ask_59 : decode cX0_ask 59 = .ok (.getfield 43, 3) := by decide +kernel
theorem dX0_ask_62 : decode cX0_ask 62 = .ok (.aload_n 0, 1) := by decide +kernel
theorem dX0_ask_63 : decode cX0_ask 63 = .ok (.getfield 62, 3) := by decide +kernel
theorem dX0_ask_66 : decode cX0_ask 66 = .ok (.iload_n 3, 1) := by decide +kernel
theorem dX0_ask_67 : decode cX0_ask 67 = .ok (.iastore, 1) := by decide +kernel
theorem dX0_ask_68 : decode cX0_ask 68 = .ok (.aload_n 0, 1) := by decide +kernel
theorem dX0_ask_69 : decode cX0_ask 69 = .ok (.getfield 46, 3) := by decide +kernel
theorem dX0_ask_72 : decode cX0_ask 72 = .ok (.aload_n 0, 1) := by decide +kernel
theorem dX0_ask_73 : decode cX0_ask 73 = .ok (.getfield 62, 3) := by decide +kernel
theorem dX0_ask_76 : decode cX0_ask 76 = .ok (.aload_n 0, 1) := by decide +kernel
theorem dX0_ask_77 : decode cX0_ask 77 = .ok (.getfield 53, 3) := by decide +kernel
theorem dX0_ask_80 : decode cX0_ask 80 = .ok (.iastore, 1) := by decide +kernel
theorem dX0_ask_81 : decode cX0_ask 81 = .ok (.aload_n 0, 1) := by decide +kernel
theorem dX0_ask_82 : decode cX0_ask 82 = .ok (.dup, 1) := by decide +kernel
theorem dX0_ask_83 : decode cX0_ask 83 = .ok (.getfield 62, 3) := by decide +kernel
theorem dX0_ask_86 : decode cX0_ask 86 = .ok (.iconst 1, 1) := by decide +kernel
theorem dX0_ask_87 : decode cX0_ask 87 = .ok (.iadd, 1) := by decide +kernel
theorem dX0_ask_88 : decode cX0_ask 88 = .ok (.putfield 62, 3) := by decide +kernel
theorem dX0_ask_91 : decode cX0_ask 91 = .ok (.iload_n 3, 1) := by decide +kernel
theorem dX0_ask_92 : decode cX0_ask 92 = .ok (.ireturn, 1) := by decide +kernel
theorem dX0_dropFirstHeard_0 : decode cX0_dropFirstHeard 0 = .ok (.aload_n 0, 1) := by decide +kernel
theorem dX0_dropFirstHeard_1 : decode cX0_dropFirstHeard 1 = .ok (.bipush 11, 2) := by decide +kernel
theorem dX0_dropFirstHeard_3 : decode cX0_dropFirstHeard 3 = .ok (.putfield 62, 3) := by decide +kernel
theorem dX0_dropFirstHeard_6 : decode cX0_dropFirstHeard 6 = .ok (.aload_n 0, 1) := by decide +kernel
theorem dX0_dropFirstHeard_7 : decode cX0_dropFirstHeard 7 = .ok (.getfield 37, 3) := by decide +kernel
theorem dX0_dropFirstHeard_10 : decode cX0_dropFirstHeard 10 = .ok (.iconst 1, 1) := by decide +kernel
theorem dX0_dropFirstHeard_11 : decode cX0_dropFirstHeard 11 = .ok (.aload_n 0, 1) := by decide +kernel
theorem dX0_dropFirstHeard_12 : decode cX0_dropFirstHeard 12 = .ok (.getfield 37, 3) := by decide +kernel
theorem dX0_dropFirstHeard_15 : decode cX0_dropFirstHeard 15 = .ok (.iconst 0, 1) := by decide +kernel
theorem dX0_dropFirstHeard_16 : decode cX0_dropFirstHeard 16 = .ok (.aload_n 0, 1) := by decide +kernel
theorem dX0_dropFirstHeard_17 : decode cX0_dropFirstHeard 17 = .ok (.getfield 62, 3) := by decide +kernel
theorem dX0_dropFirstHeard_20 : decode cX0_dropFirstHeard 20 = .ok (.invokestatic 65, 3) := by decide +kernel
theorem dX0_dropFirstHeard_23 : decode cX0_dropFirstHeard 23 = .ok (.aload_n 0, 1) := by decide +kernel
theorem dX0_dropFirstHeard_24 : decode cX0_dropFirstHeard 24 = .ok (.getfield 40, 3) := by decide +kernel
theorem dX0_dropFirstHeard_27 : decode cX0_dropFirstHeard 27 = .ok (.iconst 1, 1) := by decide +kernel
theorem dX0_dropFirstHeard_28 : decode cX0_dropFirstHeard 28 = .ok (.aload_n 0, 1) := by decide +kernel
theorem dX0_dropFirstHeard_29 : decode cX0_dropFirstHeard 29 = .ok (.getfield 40, 3) := by decide +kernel
theorem dX0_dropFirstHeard_32 : decode cX0_dropFirstHeard 32 = .ok (.iconst 0, 1) := by decide +kernel
theorem dX0_dropFirstHeard_33 : decode cX0_dropFirstHeard 33 = .ok (.aload_n 0, 1) := by decide +kernel
theorem dX0_dropFirstHeard_34 : decode cX0_dropFirstHeard 34 = .ok (.getfield 62, 3) := by decide +kernel
theorem dX0_dropFirstHeard_37 : decode cX0_dropFirstHeard 37 = .ok (.invokestatic 65, 3) := by decide +kernel
theorem dX0_dropFirstHeard_40 : decode cX0_dropFirstHeard 40 = .ok (.aload_n 0, 1) := by decide +kernel
theorem dX0_dropFirstHeard_41 : decode cX0_dropFirstHeard 41 = .ok (.getfield 43, 3) := by decide +kernel
theorem dX0_dropFirstHeard_44 : decode cX0_dropFirstHeard 44 = .ok (.iconst 1, 1) := by decide +kernel
theorem dX0_dropFirstHeard_45 : decode cX0_dropFirstHeard 45 = .ok (.aload_n 0, 1) := by decide +kernel
theorem dX0_dropFirstHeard_46 : decode cX0_dropFirstHeard 46 = .ok (.getfield 43, 3) := by decide +kernel
theorem dX0_dropFirstHeard_49 : decode cX0_dropFirstHeard 49 = .ok (.iconst 0, 1) := by decide +kernel
theorem dX0_dropFirstHeard_50 : decode cX0_dropFirstHeard 50 = .ok (.aload_n 0, 1) := by decide +kernel
theorem dX0_dropFirstHeard_51 : decode cX0_dropFirstHeard 51 = .ok (.getfield 62, 3) := by decide +kernel
theorem dX0_dropFirstHeard_54 : decode cX0_dropFirstHeard 54 = .ok (.invokestatic 65, 3) := by decide +kernel
theorem dX0_dropFirstHeard_57 : decode cX0_dropFirstHeard 57 = .ok (.aload_n 0, 1) := by decide +kernel
theorem dX0_dropFirstHeard_58 : decode cX0_dropFirstHeard 58 = .ok (.getfield 46, 3) := by decide +kernel
theorem dX0_dropFirstHeard_61 : decode cX0_dropFirstHeard 61 = .ok (.iconst 1, 1) := by decide +kernel
theorem dX0_dropFirstHeard_62 : decode cX0_dropFirstHeard 62 = .ok (.aload_n 0, 1) := by decide +kernel
theorem dX0_dropFirstHeard_63 : decode cX0_dropFirstHeard 63 = .ok (.getfield 46, 3) := by decide +kernel
theorem dX0_dropFirstHeard_66 : decode cX0_dropFirstHeard 66 = .ok (.iconst 0, 1) := by decide +kernel
theorem dX0_dropFirstHeard_67 : decode cX0_dropFirstHeard 67 = .ok (.aload_n 0, 1) := by decide +kernel
theorem dX0_dropFirstHeard_68 : decode cX0_dropFirstHeard 68 = .ok (.getfield 62, 3) := by decide +kernel
theorem dX0_dropFirstHeard_71 : decode cX0_dropFirstHeard 71 = .ok (.invokestatic 65, 3) := by decide +kernel
theorem dX0_dropFirstHeard_74 : decode cX0_dropFirstHeard 74 = .ok (.return_, 1) := by decide +kernel
theorem dX0_casesSo_0 : decode cX0_casesSo 0 = .ok (.iload_n 0, 1) := by decide +kernel
theorem dX0_casesSo_1 : decode cX0_casesSo 1 = .ok (.tableswitch 47 0 3 #[31, 33, 39, 43], 31) := by decide +kernel
theorem dX0_casesSo_32 : decode cX0_casesSo 32 = .ok (.lload_n 1, 1) := by decide +kernel
theorem dX0_casesSo_33 : decode cX0_casesSo 33 = .ok (.lreturn, 1) := by decide +kernel
theorem dX0_casesSo_34 : decode cX0_casesSo 34 = .ok (.lload_n 1, 1) := by decide +kernel
theorem dX0_casesSo_35 : decode cX0_casesSo 35 = .ok (.ldc2_w 96, 3) := by decide +kernel
theorem dX0_casesSo_38 : decode cX0_casesSo 38 = .ok (.lxor, 1) := by decide +kernel
theorem dX0_casesSo_39 : decode cX0_casesSo 39 = .ok (.lreturn, 1) := by decide +kernel
theorem dX0_casesSo_40 : decode cX0_casesSo 40 = .ok (.lload_n 1, 1) := by decide +kernel
theorem dX0_casesSo_41 : decode cX0_casesSo 41 = .ok (.lload_n 3, 1) := by decide +kernel
theorem dX0_casesSo_42 : decode cX0_casesSo 42 = .ok (.land, 1) := by decide +kernel
theorem dX0_casesSo_43 : decode cX0_casesSo 43 = .ok (.lreturn, 1) := by decide +kernel
theorem dX0_casesSo_44 : decode cX0_casesSo 44 = .ok (.lload_n 1, 1) := by decide +kernel
theorem dX0_casesSo_45 : decode cX0_casesSo 45 = .ok (.lload_n 3, 1) := by decide +kernel
theorem dX0_casesSo_46 : decode cX0_casesSo 46 = .ok (.lor, 1) := by decide +kernel
theorem dX0_casesSo_47 : decode cX0_casesSo 47 = .ok (.lreturn, 1) := by decide +kernel
theorem dX0_casesSo_48 : decode cX0_casesSo 48 = .ok (.lload_n 1, 1) := by decide +kernel
theorem dX0_casesSo_49 : decode cX0_casesSo 49 = .ok (.lload_n 3, 1) := by decide +kernel
theorem dX0_casesSo_50 : decode cX0_casesSo 50 = .ok (.lxor, 1) := by decide +kernel
theorem dX0_casesSo_51 : decode cX0_casesSo 51 = .ok (.ldc2_w 96, 3) := by decide +kernel
theorem dX0_casesSo_54 : decode cX0_casesSo 54 = .ok (.lxor, 1) := by decide +kernel
theorem dX0_casesSo_55 : decode cX0_casesSo 55 = .ok (.lreturn, 1) := by decide +kernel
set_option maxRecDepth 20000 in
theorem ggX0_truthOf_X0_hasQuestion : GoodIn wsX0_truthOf wsX0_hasQuestion := goodIn_r _ [6, 7, 8, 9, 10, 11, 12, 13, 14, 15, 16, 17, 18, 19, 20, 21, 22, 23, 24] (by decide +kernel) (by decide +kernel)
set_option maxRecDepth 20000 in
theorem gX0_truthOf_X0_hasQuestion : GoodIn wsX0_truthOf (wsV RX0 86 RX0 yX0_hasQuestion wsX0_hasQuestion) := goodIn_app (goodIn_of _ (by decide +kernel)) ggX0_truthOf_X0_hasQuestion
theorem dX0_truthOf_0 : decode cX0_truthOf 0 = .ok (.aload_n 0, 1) := by decide +kernel
theorem dX0_truthOf_1 : decode cX0_truthOf 1 = .ok (.iload_n 1, 1) := by decide +kernel
theorem dX0_truthOf_2 : decode cX0_truthOf 2 = .ok (.invokevirtual 86, 3) := by decide +kernel
theorem dX0_truthOf_5 : decode cX0_truthOf 5 = .ok (.ifCond .eq 12, 3) := by decide +kernel
theorem dX0_truthOf_8 : decode cX0_truthOf 8 = .ok (.aload_n 0, 1) := by decide +kernel
theorem dX0_truthOf_9 : decode cX0_truthOf 9 = .ok (.getfield 24, 3) := by decide +kernel
theorem dX0_truthOf_12 : decode cX0_truthOf 12 = .ok (.iload_n 1, 1) := by decide +kernel
theorem dX0_truthOf_13 : decode cX0_truthOf 13 = .ok (.laload, 1) := by decide +kernel
theorem dX0_truthOf_14 : decode cX0_truthOf 14 = .ok (.goto 4, 3) := by decide +kernel
theorem dX0_truthOf_17 : decode cX0_truthOf 17 = .ok (.lconst 0, 1) := by decide +kernel
theorem dX0_truthOf_18 : decode cX0_truthOf 18 = .ok (.lreturn, 1) := by decide +kernel
set_option maxRecDepth 20000 in
theorem ggX0_isSo_X0_truthOf : GoodIn wsX0_isSo wsX0_truthOf := goodIn_r _ [6, 7, 8, 9, 10, 5, 11, 12, 16, 17, 18, 19, 20, 21, 22, 23, 24, 25, 26, 27, 28, 29, 30, 31, 32] (by decide +kernel) (by decide +kernel)
set_option maxRecDepth 20000 in
theorem gX0_isSo_X0_truthOf : GoodIn wsX0_isSo (wsV RX0 98 RX0 yX0_truthOf wsX0_truthOf) := goodIn_app (goodIn_of _ (by decide +kernel)) ggX0_isSo_X0_truthOf
set_option maxRecDepth 20000 in
theorem ggX0_isSo_X2_isIn : GoodIn wsX0_isSo wsX2_isIn := goodIn_r _ [15] (by decide +kernel) (by decide +kernel)
set_option maxRecDepth 20000 in
theorem gX0_isSo_X2_isIn_n101 : GoodIn wsX0_isSo (wsX2_isIn) := ggX0_isSo_X2_isIn
theorem dX0_isSo_0 : decode cX0_isSo 0 = .ok (.aload_n 0, 1) := by decide +kernel
theorem dX0_isSo_1 : decode cX0_isSo 1 = .ok (.iload_n 1, 1) := by decide +kernel
theorem dX0_isSo_2 : decode cX0_isSo 2 = .ok (.invokevirtual 98, 3) := by decide +kernel
theorem dX0_isSo_5 : decode cX0_isSo 5 = .ok (.aload_n 0, 1) := by decide +kernel
theorem dX0_isSo_6 : decode cX0_isSo 6 = .ok (.getfield 49, 3) := by decide +kernel
theorem dX0_isSo_9 : decode cX0_isSo 9 = .ok (.invokestatic 101, 3) := by decide +kernel
theorem dX0_isSo_12 : decode cX0_isSo 12 = .ok (.ireturn, 1) := by decide +kernel
set_option maxRecDepth 20000 in
theorem ggX0_questionsSo_X0_isSo : GoodIn wsX0_questionsSo wsX0_isSo := goodIn_r _ [6, 7, 8, 9, 10, 5, 11, 12, 13, 14, 15, 16, 1, 17, 18, 19, 20, 21, 22, 23, 24, 25, 26, 27, 28, 29, 30, 31, 32, 33, 34, 35, 36] (by decide +kernel) (by decide +kernel)
set_option maxRecDepth 20000 in
theorem gX0_questionsSo_X0_isSo : GoodIn wsX0_questionsSo (wsV RX0 105 RX0 yX0_isSo wsX0_isSo) := goodIn_app (goodIn_of _ (by decide +kernel)) ggX0_questionsSo_X0_isSo
theorem dX0_questionsSo_0 : decode cX0_questionsSo 0 = .ok (.iconst 0, 1) := by decide +kernel
theorem dX0_questionsSo_1 : decode cX0_questionsSo 1 = .ok (.istore_n 1, 1) := by decide +kernel
theorem dX0_questionsSo_2 : decode cX0_questionsSo 2 = .ok (.iconst 0, 1) := by decide +kernel
theorem dX0_questionsSo_3 : decode cX0_questionsSo 3 = .ok (.istore_n 2, 1) := by decide +kernel
theorem dX0_questionsSo_4 : decode cX0_questionsSo 4 = .ok (.iload_n 2, 1) := by decide +kernel
theorem dX0_questionsSo_5 : decode cX0_questionsSo 5 = .ok (.aload_n 0, 1) := by decide +kernel
theorem dX0_questionsSo_6 : decode cX0_questionsSo 6 = .ok (.getfield 56, 3) := by decide +kernel
theorem dX0_questionsSo_9 : decode cX0_questionsSo 9 = .ok (.if_icmp .ge 23, 3) := by decide +kernel
theorem dX0_questionsSo_12 : decode cX0_questionsSo 12 = .ok (.aload_n 0, 1) := by decide +kernel
theorem dX0_questionsSo_13 : decode cX0_questionsSo 13 = .ok (.iload_n 2, 1) := by decide +kernel
theorem dX0_questionsSo_14 : decode cX0_questionsSo 14 = .ok (.invokevirtual 105, 3) := by decide +kernel
theorem dX0_questionsSo_17 : decode cX0_questionsSo 17 = .ok (.ifCond .eq 9, 3) := by decide +kernel
theorem dX0_questionsSo_20 : decode cX0_questionsSo 20 = .ok (.iload_n 1, 1) := by decide +kernel
theorem dX0_questionsSo_21 : decode cX0_questionsSo 21 = .ok (.iconst 1, 1) := by decide +kernel
theorem dX0_questionsSo_22 : decode cX0_questionsSo 22 = .ok (.iload_n 2, 1) := by decide +kernel
theorem dX0_questionsSo_23 : decode cX0_questionsSo 23 = .ok (.ishl, 1) := by decide +kernel
theorem dX0_questionsSo_24 : decode cX0_questionsSo 24 = .ok (.ior, 1) := by decide +kernel
theorem dX0_questionsSo_25 : decode cX0_questionsSo 25 = .ok (.istore_n 1, 1) := by decide +kernel
theorem dX0_questionsSo_26 : decode cX0_questionsSo 26 = .ok (.iinc 2 1, 3) := by decide +kernel
theorem dX0_questionsSo_29 : decode cX0_questionsSo 29 = .ok (.goto (-25), 3) := by decide +kernel
theorem dX0_questionsSo_32 : decode cX0_questionsSo 32 = .ok (.iload_n 1, 1) := by decide +kernel
theorem dX0_questionsSo_33 : decode cX0_questionsSo 33 = .ok (.ireturn, 1) := by decide +kernel
theorem dX0_onward_0 : decode cX0_onward 0 = .ok (.aload_n 0, 1) := by decide +kernel
theorem dX0_onward_1 : decode cX0_onward 1 = .ok (.getfield 56, 3) := by decide +kernel
theorem dX0_onward_4 : decode cX0_onward 4 = .ok (.ifCond .le 14, 3) := by decide +kernel
theorem dX0_onward_7 : decode cX0_onward 7 = .ok (.iload_n 1, 1) := by decide +kernel
theorem dX0_onward_8 : decode cX0_onward 8 = .ok (.iload_n 2, 1) := by decide +kernel
theorem dX0_onward_9 : decode cX0_onward 9 = .ok (.iadd, 1) := by decide +kernel
theorem dX0_onward_10 : decode cX0_onward 10 = .ok (.aload_n 0, 1) := by decide +kernel
theorem dX0_onward_11 : decode cX0_onward 11 = .ok (.getfield 56, 3) := by decide +kernel
theorem dX0_onward_14 : decode cX0_onward 14 = .ok (.irem, 1) := by decide +kernel
theorem dX0_onward_15 : decode cX0_onward 15 = .ok (.goto 4, 3) := by decide +kernel
theorem dX0_onward_18 : decode cX0_onward 18 = .ok (.iload_n 1, 1) := by decide +kernel
theorem dX0_onward_19 : decode cX0_onward 19 = .ok (.ireturn, 1) := by decide +kernel
theorem dX0_plainYes_0 : decode cX0_plainYes 0 = .ok (.aload_n 0, 1) := by decide +kernel
theorem dX0_plainYes_1 : decode cX0_plainYes 1 = .ok (.getfield 21, 3) := by decide +kernel
theorem dX0_plainYes_4 : decode cX0_plainYes 4 = .ok (.iload_n 2, 1) := by decide +kernel
theorem dX0_plainYes_5 : decode cX0_plainYes 5 = .ok (.iaload, 1) := by decide +kernel
theorem dX0_plainYes_6 : decode cX0_plainYes 6 = .ok (.aload_n 0, 1) := by decide +kernel
theorem dX0_plainYes_7 : decode cX0_plainYes 7 = .ok (.getfield 34, 3) := by decide +kernel
theorem dX0_plainYes_10 : decode cX0_plainYes 10 = .ok (.iload_n 1, 1) := by decide +kernel
theorem dX0_plainYes_11 : decode cX0_plainYes 11 = .ok (.iaload, 1) := by decide +kernel
theorem dX0_plainYes_12 : decode cX0_plainYes 12 = .ok (.iconst (-1), 1) := by decide +kernel
theorem dX0_plainYes_13 : decode cX0_plainYes 13 = .ok (.ixor, 1) := by decide +kernel
theorem dX0_plainYes_14 : decode cX0_plainYes 14 = .ok (.iand, 1) := by decide +kernel
theorem dX0_plainYes_15 : decode cX0_plainYes 15 = .ok (.ifCond .ne 7, 3) := by decide +kernel
theorem dX0_plainYes_18 : decode cX0_plainYes 18 = .ok (.iconst 1, 1) := by decide +kernel
theorem dX0_plainYes_19 : decode cX0_plainYes 19 = .ok (.goto 4, 3) := by decide +kernel
theorem dX0_plainYes_22 : decode cX0_plainYes 22 = .ok (.iconst 0, 1) := by decide +kernel
theorem dX0_plainYes_23 : decode cX0_plainYes 23 = .ok (.istore_n 3, 1) := by decide +kernel
theorem dX0_plainYes_24 : decode cX0_plainYes 24 = .ok (.iload_n 3, 1) := by decide +kernel
theorem dX0_plainYes_25 : decode cX0_plainYes 25 = .ok (.ifCond .eq 12, 3) := by decide +kernel
theorem dX0_plainYes_28 : decode cX0_plainYes 28 = .ok (.aload_n 0, 1) := by decide +kernel
theorem dX0_plainYes_29 : decode cX0_plainYes 29 = .ok (.getfield 24, 3) := by decide +kernel
theorem dX0_plainYes_32 : decode cX0_plainYes 32 = .ok (.iload_n 2, 1) := by decide +kernel
theorem dX0_plainYes_33 : decode cX0_plainYes 33 = .ok (.laload, 1) := by decide +kernel
theorem dX0_plainYes_34 : decode cX0_plainYes 34 = .ok (.goto 4, 3) := by decide +kernel
theorem dX0_plainYes_37 : decode cX0_plainYes 37 = .ok (.lconst 0, 1) := by decide +kernel
theorem dX0_plainYes_38 : decode cX0_plainYes 38 = .ok (.lreturn, 1) := by decide +kernel
theorem dX0_plainNo_0 : decode cX0_plainNo 0 = .ok (.aload_n 0, 1) := by decide +kernel
theorem dX0_plainNo_1 : decode cX0_plainNo 1 = .ok (.getfield 21, 3) := by decide +kernel
theorem dX0_plainNo_4 : decode cX0_plainNo 4 = .ok (.iload_n 2, 1) := by decide +kernel
theorem dX0_plainNo_5 : decode cX0_plainNo 5 = .ok (.iaload, 1) := by decide +kernel
theorem dX0_plainNo_6 : decode cX0_plainNo 6 = .ok (.aload_n 0, 1) := by decide +kernel
theorem dX0_plainNo_7 : decode cX0_plainNo 7 = .ok (.getfield 34, 3) := by decide +kernel
theorem dX0_plainNo_10 : decode cX0_plainNo 10 = .ok (.iload_n 1, 1) := by decide +kernel
theorem dX0_plainNo_11 : decode cX0_plainNo 11 = .ok (.iaload, 1) := by decide +kernel
theorem dX0_plainNo_12 : decode cX0_plainNo 12 = .ok (.iconst (-1), 1) := by decide +kernel
theorem dX0_plainNo_13 : decode cX0_plainNo 13 = .ok (.ixor, 1) := by decide +kernel
theorem dX0_plainNo_14 : decode cX0_plainNo 14 = .ok (.iand, 1) := by decide +kernel
theorem dX0_plainNo_15 : decode cX0_plainNo 15 = .ok (.ifCond .ne 7, 3) := by decide +kernel
theorem dX0_plainNo_18 : decode cX0_plainNo 18 = .ok (.iconst 1, 1) := by decide +kernel
theorem dX0_plainNo_19 : decode cX0_plainNo 19 = .ok (.goto 4, 3) := by decide +kernel
theorem dX0_plainNo_22 : decode cX0_plainNo 22 = .ok (.iconst 0, 1) := by decide +kernel
theorem dX0_plainNo_23 : decode cX0_plainNo 23 = .ok (.istore_n 3, 1) := by decide +kernel
theorem dX0_plainNo_24 : decode cX0_plainNo 24 = .ok (.iload_n 3, 1) := by decide +kernel
theorem dX0_plainNo_25 : decode cX0_plainNo 25 = .ok (.ifCond .eq 16, 3) := by decide +kernel
theorem dX0_plainNo_28 : decode cX0_plainNo 28 = .ok (.aload_n 0, 1) := by decide +kernel
theorem dX0_plainNo_29 : decode cX0_plainNo 29 = .ok (.getfield 24, 3) := by decide +kernel
theorem dX0_plainNo_32 : decode cX0_plainNo 32 = .ok (.iload_n 2, 1) := by decide +kernel
theorem dX0_plainNo_33 : decode cX0_plainNo 33 = .ok (.laload, 1) := by decide +kernel
theorem dX0_plainNo_34 : decode cX0_plainNo 34 = .ok (.ldc2_w 96, 3) := by decide +kernel
theorem dX0_plainNo_37 : decode cX0_plainNo 37 = .ok (.lxor, 1) := by decide +kernel
theorem dX0_plainNo_38 : decode cX0_plainNo 38 = .ok (.goto 4, 3) := by decide +kernel
theorem dX0_plainNo_41 : decode cX0_plainNo 41 = .ok (.lconst 0, 1) := by decide +kernel
theorem dX0_plainNo_42 : decode cX0_plainNo 42 = .ok (.lreturn, 1) := by decide +kernel
theorem dX0_forgets_0 : decode cX0_forgets 0 = .ok (.aload_n 0, 1) := by decide +kernel
theorem dX0_forgets_1 : decode cX0_forgets 1 = .ok (.getfield 31, 3) := by decide +kernel
theorem dX0_forgets_4 : decode cX0_forgets 4 = .ok (.iload_n 1, 1) := by decide +kernel
theorem dX0_forgets_5 : decode cX0_forgets 5 = .ok (.iaload, 1) := by decide +kernel
theorem dX0_forgets_6 : decode cX0_forgets 6 = .ok (.iconst 1, 1) := by decide +kernel
theorem dX0_forgets_7 : decode cX0_forgets 7 = .ok (.iadd, 1) := by decide +kernel
theorem dX0_forgets_8 : decode cX0_forgets 8 = .ok (.istore_n 3, 1) := by decide +kernel
theorem dX0_forgets_9 : decode cX0_forgets 9 = .ok (.iload_n 3, 1) := by decide +kernel
theorem dX0_forgets_10 : decode cX0_forgets 10 = .ok (.ifCond .le 13, 3) := by decide +kernel
theorem dX0_forgets_13 : decode cX0_forgets 13 = .ok (.iload_n 2, 1) := by decide +kernel
theorem dX0_forgets_14 : decode cX0_forgets 14 = .ok (.iload_n 3, 1) := by decide +kernel
theorem dX0_forgets_15 : decode cX0_forgets 15 = .ok (.irem, 1) := by decide +kernel
theorem dX0_forgets_16 : decode cX0_forgets 16 = .ok (.ifCond .ne 7, 3) := by decide +kernel
theorem dX0_forgets_19 : decode cX0_forgets 19 = .ok (.iconst 1, 1) := by decide +kernel
theorem dX0_forgets_20 : decode cX0_forgets 20 = .ok (.goto 4, 3) := by decide +kernel
theorem dX0_forgets_23 : decode cX0_forgets 23 = .ok (.iconst 0, 1) := by decide +kernel
theorem dX0_forgets_24 : decode cX0_forgets 24 = .ok (.ireturn, 1) := by decide +kernel
set_option maxRecDepth 20000 in
theorem ggX0_yes_X0_hasWitness : GoodIn wsX0_yes wsX0_hasWitness := goodIn_r _ [7, 8, 34, 35, 36, 37, 38, 39, 40, 41, 42, 43, 44, 45, 46, 47, 48, 49, 50] (by decide +kernel) (by decide +kernel)
set_option maxRecDepth 20000 in
theorem gX0_yes_X0_hasWitness : GoodIn wsX0_yes (wsV RX0 83 RX0 yX0_hasWitness wsX0_hasWitness) := goodIn_app (goodIn_of _ (by decide +kernel)) ggX0_yes_X0_hasWitness
set_option maxRecDepth 20000 in
theorem ggX0_yes_X0_hasQuestion : GoodIn wsX0_yes wsX0_hasQuestion := goodIn_r _ [12, 13, 34, 35, 36, 37, 38, 39, 40, 41, 42, 43, 44, 45, 46, 47, 48, 49, 50] (by decide +kernel) (by decide +kernel)
set_option maxRecDepth 20000 in
theorem gX0_yes_X0_hasQuestion : GoodIn wsX0_yes (wsV RX0 86 RX0 yX0_hasQuestion wsX0_hasQuestion) := goodIn_app (goodIn_of _ (by decide +kernel)) ggX0_yes_X0_hasQuestion
set_option maxRecDepth 20000 in
theorem ggX0_yes_X0_plainNo : GoodIn wsX0_yes wsX0_plainNo := goodIn_r _ [17, 18, 19, 20, 2, 34, 35, 36, 37, 38, 39, 40, 41, 42, 43, 44, 45, 46, 47, 48, 49, 50] (by decide +kernel) (by decide +kernel)
set_option maxRecDepth 20000 in
theorem gX0_yes_X0_plainNo : GoodIn wsX0_yes (wsV RX0 108 RX0 yX0_plainNo wsX0_plainNo) := goodIn_app (goodIn_of _ (by decide +kernel)) ggX0_yes_X0_plainNo
set_option maxRecDepth 20000 in
theorem ggX0_yes_X0_forgets : GoodIn wsX0_yes wsX0_forgets := goodIn_r _ [24, 25, 34, 35, 36, 37, 38, 39, 40, 41, 42, 43, 44, 45, 46, 47, 48, 49, 50] (by decide +kernel) (by decide +kernel)
set_option maxRecDepth 20000 in
theorem gX0_yes_X0_forgets : GoodIn wsX0_yes (wsV RX0 112 RX0 yX0_forgets wsX0_forgets) := goodIn_app (goodIn_of _ (by decide +kernel)) ggX0_yes_X0_forgets
set_option maxRecDepth 20000 in
theorem ggX0_yes_X0_plainYes : GoodIn wsX0_yes wsX0_plainYes := goodIn_r _ [29, 18, 19, 20, 34, 35, 36, 37, 38, 39, 40, 41, 42, 43, 44, 45, 46, 47, 48, 49, 50] (by decide +kernel) (by decide +kernel)
set_option maxRecDepth 20000 in
theorem gX0_yes_X0_plainYes : GoodIn wsX0_yes (wsV RX0 116 RX0 yX0_plainYes wsX0_plainYes) := goodIn_app (goodIn_of _ (by decide +kernel)) ggX0_yes_X0_plainYes
set_option maxRecDepth 20000 in
theorem ggX0_yes_X0_onward : GoodIn wsX0_yes wsX0_onward := goodIn_r _ [33, 13, 34, 35, 36, 37, 38, 39, 40, 41, 42, 43, 44, 45, 46, 47, 48, 49, 50] (by decide +kernel) (by decide +kernel)
set_option maxRecDepth 20000 in
theorem gX0_yes_X0_onward : GoodIn wsX0_yes (wsV RX0 119 RX0 yX0_onward wsX0_onward) := goodIn_app (goodIn_of _ (by decide +kernel)) ggX0_yes_X0_onward
theorem dX0_yes_0 : decode cX0_yes 0 = .ok (.aload_n 0, 1) := by decide +kernel
theorem dX0_yes_1 : decode cX0_yes 1 = .ok (.iload_n 1, 1) := by decide +kernel
theorem dX0_yes_2 : decode cX0_yes 2 = .ok (.invokevirtual 83, 3) := by decide +kernel
theorem dX0_yes_5 : decode cX0_yes 5 = .ok (.ifCond .eq 11, 3) := by decide +kernel
theorem dX0_yes_8 : decode cX0_yes 8 = .ok (.aload_n 0, 1) := by decide +kernel
theorem dX0_yes_9 : decode cX0_yes 9 = .ok (.iload_n 2, 1) := by decide +kernel
theorem dX0_yes_10 : decode cX0_yes 10 = .ok (.invokevirtual 86, 3) := by decide +kernel
theorem dX0_yes_13 : decode cX0_yes 13 = .ok (.ifCond .ne 5, 3) := by decide +kernel
theorem dX0_yes_16 : decode cX0_yes 16 = .ok (.lconst 0, 1) := by decide +kernel
theorem dX0_yes_17 : decode cX0_yes 17 = .ok (.lreturn, 1) := by decide +kernel
theorem dX0_yes_18 : decode cX0_yes 18 = .ok (.aload_n 0, 1) := by decide +kernel
theorem dX0_yes_19 : decode cX0_yes 19 = .ok (.getfield 28, 3) := by decide +kernel
theorem dX0_yes_22 : decode cX0_yes 22 = .ok (.iload_n 1, 1) := by decide +kernel
theorem dX0_yes_23 : decode cX0_yes 23 = .ok (.iaload, 1) := by decide +kernel
theorem dX0_yes_24 : decode cX0_yes 24 = .ok (.tableswitch 79 1 5 #[36, 79, 43, 63, 75], 36) := by decide +kernel
theorem dX0_yes_60 : decode cX0_yes 60 = .ok (.aload_n 0, 1) := by decide +kernel
theorem dX0_yes_61 : decode cX0_yes 61 = .ok (.iload_n 1, 1) := by decide +kernel
theorem dX0_yes_62 : decode cX0_yes 62 = .ok (.iload_n 2, 1) := by decide +kernel
theorem dX0_yes_63 : decode cX0_yes 63 = .ok (.invokevirtual 108, 3) := by decide +kernel
theorem dX0_yes_66 : decode cX0_yes 66 = .ok (.lreturn, 1) := by decide +kernel
theorem dX0_yes_67 : decode cX0_yes 67 = .ok (.aload_n 0, 1) := by decide +kernel
theorem dX0_yes_68 : decode cX0_yes 68 = .ok (.iload_n 1, 1) := by decide +kernel
theorem dX0_yes_69 : decode cX0_yes 69 = .ok (.iload_n 3, 1) := by decide +kernel
theorem dX0_yes_70 : decode cX0_yes 70 = .ok (.invokevirtual 112, 3) := by decide +kernel
theorem dX0_yes_73 : decode cX0_yes 73 = .ok (.ifCond .eq 7, 3) := by decide +kernel
theorem dX0_yes_76 : decode cX0_yes 76 = .ok (.lconst 0, 1) := by decide +kernel
theorem dX0_yes_77 : decode cX0_yes 77 = .ok (.goto 9, 3) := by decide +kernel
theorem dX0_yes_80 : decode cX0_yes 80 = .ok (.aload_n 0, 1) := by decide +kernel
theorem dX0_yes_81 : decode cX0_yes 81 = .ok (.iload_n 1, 1) := by decide +kernel
theorem dX0_yes_82 : decode cX0_yes 82 = .ok (.iload_n 2, 1) := by decide +kernel
theorem dX0_yes_83 : decode cX0_yes 83 = .ok (.invokevirtual 116, 3) := by decide +kernel
theorem dX0_yes_86 : decode cX0_yes 86 = .ok (.lreturn, 1) := by decide +kernel
theorem dX0_yes_87 : decode cX0_yes 87 = .ok (.aload_n 0, 1) := by decide +kernel
theorem dX0_yes_88 : decode cX0_yes 88 = .ok (.iload_n 1, 1) := by decide +kernel
theorem dX0_yes_89 : decode cX0_yes 89 = .ok (.aload_n 0, 1) := by decide +kernel
theorem dX0_yes_90 : decode cX0_yes 90 = .ok (.iload_n 2, 1) := by decide +kernel
theorem dX0_yes_91 : decode cX0_yes 91 = .ok (.iconst 1, 1) := by decide +kernel
theorem dX0_yes_92 : decode cX0_yes 92 = .ok (.invokevirtual 119, 3) := by decide +kernel
theorem dX0_yes_95 : decode cX0_yes 95 = .ok (.invokevirtual 116, 3) := by decide +kernel
theorem dX0_yes_98 : decode cX0_yes 98 = .ok (.lreturn, 1) := by decide +kernel
theorem dX0_yes_99 : decode cX0_yes 99 = .ok (.ldc2_w 96, 3) := by decide +kernel
theorem dX0_yes_102 : decode cX0_yes 102 = .ok (.lreturn, 1) := by decide +kernel
theorem dX0_yes_103 : decode cX0_yes 103 = .ok (.aload_n 0, 1) := by decide +kernel
theorem dX0_yes_104 : decode cX0_yes 104 = .ok (.iload_n 1, 1) := by decide +kernel
theorem dX0_yes_105 : decode cX0_yes 105 = .ok (.iload_n 2, 1) := by decide +kernel
theorem dX0_yes_106 : decode cX0_yes 106 = .ok (.invokevirtual 116, 3) := by decide +kernel
theorem dX0_yes_109 : decode cX0_yes 109 = .ok (.lreturn, 1) := by decide +kernel
set_option maxRecDepth 20000 in
theorem ggX0_no_X0_hasWitness : GoodIn wsX0_no wsX0_hasWitness := goodIn_r _ [6, 7, 34, 35, 36, 37, 38, 39, 40, 41, 42, 43, 44, 45, 46, 47, 48, 49, 50] (by decide +kernel) (by decide +kernel)
set_option maxRecDepth 20000 in
theorem gX0_no_X0_hasWitness : GoodIn wsX0_no (wsV RX0 83 RX0 yX0_hasWitness wsX0_hasWitness) := goodIn_app (goodIn_of _ (by decide +kernel)) ggX0_no_X0_hasWitness
set_option maxRecDepth 20000 in
theorem ggX0_no_X0_hasQuestion : GoodIn wsX0_no wsX0_hasQuestion := goodIn_r _ [11, 12, 34, 35, 36, 37, 38, 39, 40, 41, 42, 43, 44, 45, 46, 47, 48, 49, 50] (by decide +kernel) (by decide +kernel)
set_option maxRecDepth 20000 in
theorem gX0_no_X0_hasQuestion : GoodIn wsX0_no (wsV RX0 86 RX0 yX0_hasQuestion wsX0_hasQuestion) := goodIn_app (goodIn_of _ (by decide +kernel)) ggX0_no_X0_hasQuestion
set_option maxRecDepth 20000 in
theorem ggX0_no_X0_plainYes : GoodIn wsX0_no wsX0_plainYes := goodIn_r _ [16, 17, 18, 19, 34, 35, 36, 37, 38, 39, 40, 41, 42, 43, 44, 45, 46, 47, 48, 49, 50] (by decide +kernel) (by decide +kernel)
set_option maxRecDepth 20000 in
theorem gX0_no_X0_plainYes : GoodIn wsX0_no (wsV RX0 116 RX0 yX0_plainYes wsX0_plainYes) := goodIn_app (goodIn_of _ (by decide +kernel)) ggX0_no_X0_plainYes
set_option maxRecDepth 20000 in
theorem ggX0_no_X0_forgets : GoodIn wsX0_no wsX0_forgets := goodIn_r _ [23, 24, 34, 35, 36, 37, 38, 39, 40, 41, 42, 43, 44, 45, 46, 47, 48, 49, 50] (by decide +kernel) (by decide +kernel)
set_option maxRecDepth 20000 in
theorem gX0_no_X0_forgets : GoodIn wsX0_no (wsV RX0 112 RX0 yX0_forgets wsX0_forgets) := goodIn_app (goodIn_of _ (by decide +kernel)) ggX0_no_X0_forgets
set_option maxRecDepth 20000 in
theorem ggX0_no_X0_plainNo : GoodIn wsX0_no wsX0_plainNo := goodIn_r _ [28, 17, 18, 19, 29, 34, 35, 36, 37, 38, 39, 40, 41, 42, 43, 44, 45, 46, 47, 48, 49, 50] (by decide +kernel) (by decide +kernel)
set_option maxRecDepth 20000 in
theorem gX0_no_X0_plainNo : GoodIn wsX0_no (wsV RX0 108 RX0 yX0_plainNo wsX0_plainNo) := goodIn_app (goodIn_of _ (by decide +kernel)) ggX0_no_X0_plainNo
set_option maxRecDepth 20000 in
theorem ggX0_no_X0_onward : GoodIn wsX0_no wsX0_onward := goodIn_r _ [33, 12, 34, 35, 36, 37, 38, 39, 40, 41, 42, 43, 44, 45, 46, 47, 48, 49, 50] (by decide +kernel) (by decide +kernel)
set_option maxRecDepth 20000 in
theorem gX0_no_X0_onward : GoodIn wsX0_no (wsV RX0 119 RX0 yX0_onward wsX0_onward) := goodIn_app (goodIn_of _ (by decide +kernel)) ggX0_no_X0_onward
theorem dX0_no_0 : decode cX0_no 0 = .ok (.aload_n 0, 1) := by decide +kernel
theorem dX0_no_1 : decode cX0_no 1 = .ok (.iload_n 1, 1) := by decide +kernel
theorem dX0_no_2 : decode cX0_no 2 = .ok (.invokevirtual 83, 3) := by decide +kernel
theorem dX0_no_5 : decode cX0_no 5 = .ok (.ifCond .eq 11, 3) := by decide +kernel
theorem dX0_no_8 : decode cX0_no 8 = .ok (.aload_n 0, 1) := by decide +kernel
theorem dX0_no_9 : decode cX0_no 9 = .ok (.iload_n 2, 1) := by decide +kernel
theorem dX0_no_10 : decode cX0_no 10 = .ok (.invokevirtual 86, 3) := by decide +kernel
theorem dX0_no_13 : decode cX0_no 13 = .ok (.ifCond .ne 5, 3) := by decide +kernel
theorem dX0_no_16 : decode cX0_no 16 = .ok (.lconst 0, 1) := by decide +kernel
theorem dX0_no_17 : decode cX0_no 17 = .ok (.lreturn, 1) := by decide +kernel
theorem dX0_no_18 : decode cX0_no 18 = .ok (.aload_n 0, 1) := by decide +kernel
theorem dX0_no_19 : decode cX0_no 19 = .ok (.getfield 28, 3) := by decide +kernel
theorem dX0_no_22 : decode cX0_no 22 = .ok (.iload_n 1, 1) := by decide +kernel
theorem dX0_no_23 : decode cX0_no 23 = .ok (.iaload, 1) := by decide +kernel
theorem dX0_no_24 : decode cX0_no 24 = .ok (.tableswitch 79 1 5 #[36, 43, 45, 65, 77], 36) := by decide +kernel
theorem dX0_no_60 : decode cX0_no 60 = .ok (.aload_n 0, 1) := by decide +kernel
theorem dX0_no_61 : decode cX0_no 61 = .ok (.iload_n 1, 1) := by decide +kernel
theorem dX0_no_62 : decode cX0_no 62 = .ok (.iload_n 2, 1) := by decide +kernel
theorem dX0_no_63 : decode cX0_no 63 = .ok (.invokevirtual 116, 3) := by decide +kernel
theorem dX0_no_66 : decode cX0_no 66 = .ok (.lreturn, 1) := by decide +kernel
theorem dX0_no_67 : decode cX0_no 67 = .ok (.lconst 0, 1) := by decide +kernel
theorem dX0_no_68 : decode cX0_no 68 = .ok (.lreturn, 1) := by decide +kernel
theorem dX0_no_69 : decode cX0_no 69 = .ok (.aload_n 0, 1) := by decide +kernel
theorem dX0_no_70 : decode cX0_no 70 = .ok (.iload_n 1, 1) := by decide +kernel
theorem dX0_no_71 : decode cX0_no 71 = .ok (.iload_n 3, 1) := by decide +kernel
theorem dX0_no_72 : decode cX0_no 72 = .ok (.invokevirtual 112, 3) := by decide +kernel
theorem dX0_no_75 : decode cX0_no 75 = .ok (.ifCond .eq 7, 3) := by decide +kernel
theorem dX0_no_78 : decode cX0_no 78 = .ok (.lconst 0, 1) := by decide +kernel
theorem dX0_no_79 : decode cX0_no 79 = .ok (.goto 9, 3) := by decide +kernel
theorem dX0_no_82 : decode cX0_no 82 = .ok (.aload_n 0, 1) := by decide +kernel
theorem dX0_no_83 : decode cX0_no 83 = .ok (.iload_n 1, 1) := by decide +kernel
theorem dX0_no_84 : decode cX0_no 84 = .ok (.iload_n 2, 1) := by decide +kernel
theorem dX0_no_85 : decode cX0_no 85 = .ok (.invokevirtual 108, 3) := by decide +kernel
theorem dX0_no_88 : decode cX0_no 88 = .ok (.lreturn, 1) := by decide +kernel
theorem dX0_no_89 : decode cX0_no 89 = .ok (.aload_n 0, 1) := by decide +kernel
theorem dX0_no_90 : decode cX0_no 90 = .ok (.iload_n 1, 1) := by decide +kernel
theorem dX0_no_91 : decode cX0_no 91 = .ok (.aload_n 0, 1) := by decide +kernel
theorem dX0_no_92 : decode cX0_no 92 = .ok (.iload_n 2, 1) := by decide +kernel
theorem dX0_no_93 : decode cX0_no 93 = .ok (.iconst 1, 1) := by decide +kernel
theorem dX0_no_94 : decode cX0_no 94 = .ok (.invokevirtual 119, 3) := by decide +kernel
theorem dX0_no_97 : decode cX0_no 97 = .ok (.invokevirtual 108, 3) := by decide +kernel
theorem dX0_no_100 : decode cX0_no 100 = .ok (.lreturn, 1) := by decide +kernel
theorem dX0_no_101 : decode cX0_no 101 = .ok (.lconst 0, 1) := by decide +kernel
theorem dX0_no_102 : decode cX0_no 102 = .ok (.lreturn, 1) := by decide +kernel
theorem dX0_no_103 : decode cX0_no 103 = .ok (.aload_n 0, 1) := by decide +kernel
theorem dX0_no_104 : decode cX0_no 104 = .ok (.iload_n 1, 1) := by decide +kernel
theorem dX0_no_105 : decode cX0_no 105 = .ok (.iload_n 2, 1) := by decide +kernel
theorem dX0_no_106 : decode cX0_no 106 = .ok (.invokevirtual 108, 3) := by decide +kernel
theorem dX0_no_109 : decode cX0_no 109 = .ok (.lreturn, 1) := by decide +kernel
set_option maxRecDepth 20000 in
theorem ggX0_saying_X0_no : GoodIn wsX0_saying wsX0_no := goodIn_r _ [6, 7, 8, 9, 10, 5, 11, 12, 13, 14, 15, 16, 17, 18, 19, 20, 21, 22, 23, 24, 25, 26, 27, 28, 29, 30, 31, 32, 33, 1, 34, 35, 36, 37, 42, 43, 44, 45, 46, 47, 48, 49, 50, 51, 52, 53, 54, 55, 56, 57, 58] (by decide +kernel) (by decide +kernel)
set_option maxRecDepth 20000 in
theorem gX0_saying_X0_no : GoodIn wsX0_saying (wsV RX0 123 RX0 yX0_no wsX0_no) := goodIn_app (goodIn_of _ (by decide +kernel)) ggX0_saying_X0_no
set_option maxRecDepth 20000 in
theorem ggX0_saying_X0_yes : GoodIn wsX0_saying wsX0_yes := goodIn_r _ [41, 7, 1, 8, 9, 10, 5, 11, 12, 13, 14, 15, 16, 17, 30, 31, 32, 33, 22, 23, 24, 25, 26, 27, 28, 29, 18, 19, 20, 21, 34, 35, 36, 37, 42, 43, 44, 45, 46, 47, 48, 49, 50, 51, 52, 53, 54, 55, 56, 57, 58] (by decide +kernel) (by decide +kernel)
set_option maxRecDepth 20000 in
theorem gX0_saying_X0_yes : GoodIn wsX0_saying (wsV RX0 127 RX0 yX0_yes wsX0_yes) := goodIn_app (goodIn_of _ (by decide +kernel)) ggX0_saying_X0_yes
theorem dX0_saying_0 : decode cX0_saying 0 = .ok (.iload 4, 2) := by decide +kernel
theorem dX0_saying_2 : decode cX0_saying 2 = .ok (.lookupswitch 42 #[(0, 26), (1, 34)], 26) := by decide +kernel
theorem dX0_saying_28 : decode cX0_saying 28 = .ok (.aload_n 0, 1) := by decide +kernel
theorem dX0_saying_29 : decode cX0_saying 29 = .ok (.iload_n 1, 1) := by decide +kernel
theorem dX0_saying_30 : decode cX0_saying 30 = .ok (.iload_n 2, 1) := by decide +kernel
theorem dX0_saying_31 : decode cX0_saying 31 = .ok (.iload_n 3, 1) := by decide +kernel
theorem dX0_saying_32 : decode cX0_saying 32 = .ok (.invokevirtual 123, 3) := by decide +kernel
theorem dX0_saying_35 : decode cX0_saying 35 = .ok (.lreturn, 1) := by decide +kernel
theorem dX0_saying_36 : decode cX0_saying 36 = .ok (.aload_n 0, 1) := by decide +kernel
theorem dX0_saying_37 : decode cX0_saying 37 = .ok (.iload_n 1, 1) := by decide +kernel
theorem dX0_saying_38 : decode cX0_saying 38 = .ok (.iload_n 2, 1) := by decide +kernel
theorem dX0_saying_39 : decode cX0_saying 39 = .ok (.iload_n 3, 1) := by decide +kernel
theorem dX0_saying_40 : decode cX0_saying 40 = .ok (.invokevirtual 127, 3) := by decide +kernel
theorem dX0_saying_43 : decode cX0_saying 43 = .ok (.lreturn, 1) := by decide +kernel
theorem dX0_saying_44 : decode cX0_saying 44 = .ok (.aload_n 0, 1) := by decide +kernel
theorem dX0_saying_45 : decode cX0_saying 45 = .ok (.iload_n 1, 1) := by decide +kernel
theorem dX0_saying_46 : decode cX0_saying 46 = .ok (.iload_n 2, 1) := by decide +kernel
theorem dX0_saying_47 : decode cX0_saying 47 = .ok (.iload_n 3, 1) := by decide +kernel
theorem dX0_saying_48 : decode cX0_saying 48 = .ok (.invokevirtual 127, 3) := by decide +kernel
theorem dX0_saying_51 : decode cX0_saying 51 = .ok (.aload_n 0, 1) := by decide +kernel
theorem dX0_saying_52 : decode cX0_saying 52 = .ok (.iload_n 1, 1) := by decide +kernel
theorem dX0_saying_53 : decode cX0_saying 53 = .ok (.iload_n 2, 1) := by decide +kernel
theorem dX0_saying_54 : decode cX0_saying 54 = .ok (.iload_n 3, 1) := by decide +kernel
theorem dX0_saying_55 : decode cX0_saying 55 = .ok (.invokevirtual 123, 3) := by decide +kernel
theorem dX0_saying_58 : decode cX0_saying 58 = .ok (.lor, 1) := by decide +kernel
theorem dX0_saying_59 : decode cX0_saying 59 = .ok (.ldc2_w 96, 3) := by decide +kernel
theorem dX0_saying_62 : decode cX0_saying 62 = .ok (.lxor, 1) := by decide +kernel
theorem dX0_saying_63 : decode cX0_saying 63 = .ok (.lreturn, 1) := by decide +kernel
set_option maxRecDepth 20000 in
theorem ggX0_reply_X0_yes : GoodIn wsX0_reply wsX0_yes := goodIn_r _ [5, 6, 7, 8, 9, 10, 4, 11, 12, 13, 14, 15, 16, 17, 18, 19, 20, 21, 22, 23, 24, 25, 26, 27, 28, 29, 30, 31, 32, 33, 34, 35, 36, 37, 45, 46, 47, 48, 49, 50, 51, 52, 53, 54, 55, 56, 57, 58, 59, 60, 61] (by decide +kernel) (by decide +kernel)
set_option maxRecDepth 20000 in
theorem gX0_reply_X0_yes : GoodIn wsX0_reply (wsV RX0 127 RX0 yX0_yes wsX0_yes) := goodIn_app (goodIn_of _ (by decide +kernel)) ggX0_reply_X0_yes
set_option maxRecDepth 20000 in
theorem ggX0_reply_X2_isIn : GoodIn wsX0_reply wsX2_isIn := goodIn_r _ [40] (by decide +kernel) (by decide +kernel)
set_option maxRecDepth 20000 in
theorem gX0_reply_X2_isIn_n101 : GoodIn wsX0_reply (wsX2_isIn) := ggX0_reply_X2_isIn
set_option maxRecDepth 20000 in
theorem ggX0_reply_X0_no : GoodIn wsX0_reply wsX0_no := goodIn_r _ [44, 6, 8, 9, 10, 4, 11, 12, 13, 14, 15, 16, 17, 30, 31, 32, 33, 22, 23, 24, 25, 26, 27, 28, 29, 18, 19, 20, 21, 7, 34, 35, 36, 37, 45, 46, 47, 48, 49, 50, 51, 52, 53, 54, 55, 56, 57, 58, 59, 60, 61] (by decide +kernel) (by decide +kernel)
set_option maxRecDepth 20000 in
theorem gX0_reply_X0_no : GoodIn wsX0_reply (wsV RX0 123 RX0 yX0_no wsX0_no) := goodIn_app (goodIn_of _ (by decide +kernel)) ggX0_reply_X0_no
theorem dX0_reply_0 : decode cX0_reply 0 = .ok (.aload_n 0, 1) := by decide +kernel
theorem dX0_reply_1 : decode cX0_reply 1 = .ok (.iload_n 1, 1) := by decide +kernel
theorem dX0_reply_2 : decode cX0_reply 2 = .ok (.iload_n 2, 1) := by decide +kernel
theorem dX0_reply_3 : decode cX0_reply 3 = .ok (.iload_n 3, 1) := by decide +kernel
theorem dX0_reply_4 : decode cX0_reply 4 = .ok (.invokevirtual 127, 3) := by decide +kernel
theorem dX0_reply_7 : decode cX0_reply 7 = .ok (.iload 4, 2) := by decide +kernel
theorem dX0_reply_9 : decode cX0_reply 9 = .ok (.invokestatic 101, 3) := by decide +kernel
theorem dX0_reply_12 : decode cX0_reply 12 = .ok (.ifCond .eq 5, 3) := by decide +kernel
theorem dX0_reply_15 : decode cX0_reply 15 = .ok (.iconst 1, 1) := by decide +kernel
theorem dX0_reply_16 : decode cX0_reply 16 = .ok (.ireturn, 1) := by decide +kernel
theorem dX0_reply_17 : decode cX0_reply 17 = .ok (.aload_n 0, 1) := by decide +kernel
theorem dX0_reply_18 : decode cX0_reply 18 = .ok (.iload_n 1, 1) := by decide +kernel
theorem dX0_reply_19 : decode cX0_reply 19 = .ok (.iload_n 2, 1) := by decide +kernel
theorem dX0_reply_20 : decode cX0_reply 20 = .ok (.iload_n 3, 1) := by decide +kernel
theorem dX0_reply_21 : decode cX0_reply 21 = .ok (.invokevirtual 123, 3) := by decide +kernel
theorem dX0_reply_24 : decode cX0_reply 24 = .ok (.iload 4, 2) := by decide +kernel
theorem dX0_reply_26 : decode cX0_reply 26 = .ok (.invokestatic 101, 3) := by decide +kernel
theorem dX0_reply_29 : decode cX0_reply 29 = .ok (.ifCond .eq 7, 3) := by decide +kernel
theorem dX0_reply_32 : decode cX0_reply 32 = .ok (.iconst 0, 1) := by decide +kernel
theorem dX0_reply_33 : decode cX0_reply 33 = .ok (.goto 4, 3) := by decide +kernel
theorem dX0_reply_36 : decode cX0_reply 36 = .ok (.iconst 2, 1) := by decide +kernel
theorem dX0_reply_37 : decode cX0_reply 37 = .ok (.ireturn, 1) := by decide +kernel
set_option maxRecDepth 20000 in
theorem ggX0_keeping_X0_reply : GoodIn wsX0_keeping wsX0_reply := goodIn_r _ [6, 7, 8, 9, 5, 10, 11, 12, 13, 14, 15, 16, 17, 18, 19, 20, 21, 22, 23, 24, 25, 26, 27, 28, 29, 30, 31, 32, 33, 34, 35, 36, 37, 38, 39, 40, 41, 42, 43, 44, 45, 46, 47, 48, 49, 54, 55, 56, 57, 58, 59, 60, 61, 62, 63, 64, 65, 66, 67, 68, 69, 70] (by decide +kernel) (by decide +kernel)
set_option maxRecDepth 20000 in
theorem gX0_keeping_X0_reply : GoodIn wsX0_keeping (wsV RX0 89 RX0 yX0_reply wsX0_reply) := goodIn_app (goodIn_of _ (by decide +kernel)) ggX0_keeping_X0_reply
set_option maxRecDepth 20000 in
theorem ggX0_keeping_X0_saying : GoodIn wsX0_keeping wsX0_saying := goodIn_r _ [53, 12, 46, 47, 48, 5, 49, 11, 13, 14, 15, 16, 17, 18, 19, 20, 21, 22, 35, 36, 37, 38, 27, 28, 29, 30, 31, 32, 33, 34, 23, 24, 25, 26, 39, 40, 41, 42, 7, 8, 9, 10, 54, 55, 56, 57, 58, 59, 60, 61, 62, 63, 64, 65, 66, 67, 68, 69, 70] (by decide +kernel) (by decide +kernel)
set_option maxRecDepth 20000 in
theorem gX0_keeping_X0_saying : GoodIn wsX0_keeping (wsV RX0 130 RX0 yX0_saying wsX0_saying) := goodIn_app (goodIn_of _ (by decide +kernel)) ggX0_keeping_X0_saying
theorem dX0_keeping_0 : decode cX0_keeping 0 = .ok (.aload_n 0, 1) := by decide +kernel
theorem dX0_keeping_1 : decode cX0_keeping 1 = .ok (.iload_n 1, 1) := by decide +kernel
theorem dX0_keeping_2 : decode cX0_keeping 2 = .ok (.iload_n 2, 1) := by decide +kernel
theorem dX0_keeping_3 : decode cX0_keeping 3 = .ok (.iload_n 3, 1) := by decide +kernel
theorem dX0_keeping_4 : decode cX0_keeping 4 = .ok (.aload_n 0, 1) := by decide +kernel
theorem dX0_keeping_5 : decode cX0_keeping 5 = .ok (.iload_n 1, 1) := by decide +kernel
theorem dX0_keeping_6 : decode cX0_keeping 6 = .ok (.iload_n 2, 1) := by decide +kernel
theorem dX0_keeping_7 : decode cX0_keeping 7 = .ok (.iload_n 3, 1) := by decide +kernel
theorem dX0_keeping_8 : decode cX0_keeping 8 = .ok (.aload_n 0, 1) := by decide +kernel
theorem dX0_keeping_9 : decode cX0_keeping 9 = .ok (.getfield 49, 3) := by decide +kernel
theorem dX0_keeping_12 : decode cX0_keeping 12 = .ok (.invokevirtual 89, 3) := by decide +kernel
theorem dX0_keeping_15 : decode cX0_keeping 15 = .ok (.invokevirtual 130, 3) := by decide +kernel
theorem dX0_keeping_18 : decode cX0_keeping 18 = .ok (.lreturn, 1) := by decide +kernel
set_option maxRecDepth 20000 in
theorem ggX0_questionsSaid_X0_reply : GoodIn wsX0_questionsSaid wsX0_reply := goodIn_r _ [7, 8, 9, 10, 6, 11, 12, 13, 14, 15, 16, 17, 18, 19, 20, 21, 22, 1, 23, 24, 25, 26, 27, 28, 29, 30, 31, 32, 33, 34, 35, 36, 37, 38, 39, 40, 41, 42, 43, 44, 45, 46, 47, 48, 49, 50, 51, 52, 53, 54, 55, 56, 57, 58, 59, 60, 61, 62, 63, 64, 65, 66] (by decide +kernel) (by decide +kernel)
set_option maxRecDepth 20000 in
theorem gX0_questionsSaid_X0_reply : GoodIn wsX0_questionsSaid (wsV RX0 89 RX0 yX0_reply wsX0_reply) := goodIn_app (goodIn_of _ (by decide +kernel)) ggX0_questionsSaid_X0_reply
theorem dX0_questionsSaid_0 : decode cX0_questionsSaid 0 = .ok (.iconst 0, 1) := by decide +kernel
theorem dX0_questionsSaid_1 : decode cX0_questionsSaid 1 = .ok (.istore 4, 2) := by decide +kernel
theorem dX0_questionsSaid_3 : decode cX0_questionsSaid 3 = .ok (.iconst 0, 1) := by decide +kernel
theorem dX0_questionsSaid_4 : decode cX0_questionsSaid 4 = .ok (.istore 5, 2) := by decide +kernel
theorem dX0_questionsSaid_6 : decode cX0_questionsSaid 6 = .ok (.iload 5, 2) := by decide +kernel
theorem dX0_questionsSaid_8 : decode cX0_questionsSaid 8 = .ok (.aload_n 0, 1) := by decide +kernel
theorem dX0_questionsSaid_9 : decode cX0_questionsSaid 9 = .ok (.getfield 56, 3) := by decide +kernel
theorem dX0_questionsSaid_12 : decode cX0_questionsSaid 12 = .ok (.if_icmp .ge 28, 3) := by decide +kernel
theorem dX0_questionsSaid_15 : decode cX0_questionsSaid 15 = .ok (.aload_n 0, 1) := by decide +kernel
theorem dX0_questionsSaid_16 : decode cX0_questionsSaid 16 = .ok (.iload_n 1, 1) := by decide +kernel
theorem dX0_questionsSaid_17 : decode cX0_questionsSaid 17 = .ok (.iload 5, 2) := by decide +kernel
theorem dX0_questionsSaid_19 : decode cX0_questionsSaid 19 = .ok (.iload_n 2, 1) := by decide +kernel
theorem dX0_questionsSaid_20 : decode cX0_questionsSaid 20 = .ok (.aload_n 0, 1) := by decide +kernel
theorem dX0_questionsSaid_21 : decode cX0_questionsSaid 21 = .ok (.getfield 49, 3) := by decide +kernel
theorem dX0_questionsSaid_24 : decode cX0_questionsSaid 24 = .ok (.invokevirtual 89, 3) := by decide +kernel
theorem dX0_questionsSaid_27 : decode cX0_questionsSaid 27 = .ok (.iload_n 3, 1) := by decide +kernel
theorem dX0_questionsSaid_28 : decode cX0_questionsSaid 28 = .ok (.if_icmp .ne 6, 3) := by decide +kernel
theorem dX0_questionsSaid_31 : decode cX0_questionsSaid 31 = .ok (.iinc 4 1, 3) := by decide +kernel
theorem dX0_questionsSaid_34 : decode cX0_questionsSaid 34 = .ok (.iinc 5 1, 3) := by decide +kernel
theorem dX0_questionsSaid_37 : decode cX0_questionsSaid 37 = .ok (.goto (-31), 3) := by decide +kernel
theorem dX0_questionsSaid_40 : decode cX0_questionsSaid 40 = .ok (.iload 4, 2) := by decide +kernel
theorem dX0_questionsSaid_42 : decode cX0_questionsSaid 42 = .ok (.ireturn, 1) := by decide +kernel
set_option maxRecDepth 20000 in
theorem ggX0_heardFitting_X0_hasPlace : GoodIn wsX0_heardFitting wsX0_hasPlace := goodIn_r _ [10, 11, 55, 56, 57, 58, 59, 60, 61, 62, 63, 64, 65, 66, 67, 68, 69, 70, 71] (by decide +kernel) (by decide +kernel)
set_option maxRecDepth 20000 in
theorem gX0_heardFitting_X0_hasPlace : GoodIn wsX0_heardFitting (wsV RX0 134 RX0 yX0_hasPlace wsX0_hasPlace) := goodIn_app (goodIn_of _ (by decide +kernel)) ggX0_heardFitting_X0_hasPlace
set_option maxRecDepth 20000 in
theorem ggX0_heardFitting_X0_saying : GoodIn wsX0_heardFitting wsX0_saying := goodIn_r _ [15, 1, 16, 17, 18, 9, 19, 20, 21, 22, 23, 24, 25, 26, 27, 28, 29, 30, 31, 32, 33, 34, 35, 36, 37, 38, 39, 40, 41, 42, 43, 44, 45, 46, 47, 48, 49, 50, 51, 52, 53, 54, 55, 56, 57, 58, 59, 60, 61, 62, 63, 64, 65, 66, 67, 68, 69, 70, 71] (by decide +kernel) (by decide +kernel)
set_option maxRecDepth 20000 in
theorem gX0_heardFitting_X0_saying : GoodIn wsX0_heardFitting (wsV RX0 130 RX0 yX0_saying wsX0_saying) := goodIn_app (goodIn_of _ (by decide +kernel)) ggX0_heardFitting_X0_saying
theorem dX0_heardFitting_0 : decode cX0_heardFitting 0 = .ok (.aload_n 0, 1) := by decide +kernel
theorem dX0_heardFitting_1 : decode cX0_heardFitting 1 = .ok (.iload_n 1, 1) := by decide +kernel
theorem dX0_heardFitting_2 : decode cX0_heardFitting 2 = .ok (.invokevirtual 134, 3) := by decide +kernel
theorem dX0_heardFitting_5 : decode cX0_heardFitting 5 = .ok (.ifCond .ne 7, 3) := by decide +kernel
theorem dX0_heardFitting_8 : decode cX0_heardFitting 8 = .ok (.ldc2_w 96, 3) := by decide +kernel
theorem dX0_heardFitting_11 : decode cX0_heardFitting 11 = .ok (.lreturn, 1) := by decide +kernel
theorem dX0_heardFitting_12 : decode cX0_heardFitting 12 = .ok (.aload_n 0, 1) := by decide +kernel
theorem dX0_heardFitting_13 : decode cX0_heardFitting 13 = .ok (.aload_n 0, 1) := by decide +kernel
theorem dX0_heardFitting_14 : decode cX0_heardFitting 14 = .ok (.getfield 37, 3) := by decide +kernel
theorem dX0_heardFitting_17 : decode cX0_heardFitting 17 = .ok (.iload_n 1, 1) := by decide +kernel
theorem dX0_heardFitting_18 : decode cX0_heardFitting 18 = .ok (.iaload, 1) := by decide +kernel
theorem dX0_heardFitting_19 : decode cX0_heardFitting 19 = .ok (.aload_n 0, 1) := by decide +kernel
theorem dX0_heardFitting_20 : decode cX0_heardFitting 20 = .ok (.getfield 40, 3) := by decide +kernel
theorem dX0_heardFitting_23 : decode cX0_heardFitting 23 = .ok (.iload_n 1, 1) := by decide +kernel
theorem dX0_heardFitting_24 : decode cX0_heardFitting 24 = .ok (.iaload, 1) := by decide +kernel
theorem dX0_heardFitting_25 : decode cX0_heardFitting 25 = .ok (.aload_n 0, 1) := by decide +kernel
theorem dX0_heardFitting_26 : decode cX0_heardFitting 26 = .ok (.getfield 46, 3) := by decide +kernel
theorem dX0_heardFitting_29 : decode cX0_heardFitting 29 = .ok (.iload_n 1, 1) := by decide +kernel
theorem dX0_heardFitting_30 : decode cX0_heardFitting 30 = .ok (.iaload, 1) := by decide +kernel
theorem dX0_heardFitting_31 : decode cX0_heardFitting 31 = .ok (.aload_n 0, 1) := by decide +kernel
theorem dX0_heardFitting_32 : decode cX0_heardFitting 32 = .ok (.getfield 43, 3) := by decide +kernel
theorem dX0_heardFitting_35 : decode cX0_heardFitting 35 = .ok (.iload_n 1, 1) := by decide +kernel
theorem dX0_heardFitting_36 : decode cX0_heardFitting 36 = .ok (.iaload, 1) := by decide +kernel
theorem dX0_heardFitting_37 : decode cX0_heardFitting 37 = .ok (.invokevirtual 130, 3) := by decide +kernel
theorem dX0_heardFitting_40 : decode cX0_heardFitting 40 = .ok (.lreturn, 1) := by decide +kernel
set_option maxRecDepth 20000 in
theorem ggX0_fitting_X0_heardFitting : GoodIn wsX0_fitting wsX0_heardFitting := goodIn_r _ [7, 1, 8, 9, 10, 11, 12, 13, 14, 6, 15, 2, 16, 17, 18, 19, 20, 21, 22, 23, 24, 25, 26, 27, 28, 29, 30, 31, 32, 33, 34, 35, 36, 37, 38, 39, 40, 41, 42, 43, 44, 45, 46, 47, 48, 49, 50, 51, 52, 53, 54, 55, 56, 57, 58, 59, 60, 61, 62, 63, 64, 65, 66, 67, 68, 69, 70, 71, 72, 73, 74, 75] (by decide +kernel) (by decide +kernel)
set_option maxRecDepth 20000 in
theorem gX0_fitting_X0_heardFitting : GoodIn wsX0_fitting (wsV RX0 137 RX0 yX0_heardFitting wsX0_heardFitting) := goodIn_app (goodIn_of _ (by decide +kernel)) ggX0_fitting_X0_heardFitting
theorem dX0_fitting_0 : decode cX0_fitting 0 = .ok (.ldc2_w 96, 3) := by decide +kernel
theorem dX0_fitting_3 : decode cX0_fitting 3 = .ok (.lstore_n 1, 1) := by decide +kernel
theorem dX0_fitting_4 : decode cX0_fitting 4 = .ok (.iconst 0, 1) := by decide +kernel
theorem dX0_fitting_5 : decode cX0_fitting 5 = .ok (.istore_n 3, 1) := by decide +kernel
theorem dX0_fitting_6 : decode cX0_fitting 6 = .ok (.iload_n 3, 1) := by decide +kernel
theorem dX0_fitting_7 : decode cX0_fitting 7 = .ok (.aload_n 0, 1) := by decide +kernel
theorem dX0_fitting_8 : decode cX0_fitting 8 = .ok (.getfield 62, 3) := by decide +kernel
theorem dX0_fitting_11 : decode cX0_fitting 11 = .ok (.if_icmp .ge 17, 3) := by decide +kernel
theorem dX0_fitting_14 : decode cX0_fitting 14 = .ok (.lload_n 1, 1) := by decide +kernel
theorem dX0_fitting_15 : decode cX0_fitting 15 = .ok (.aload_n 0, 1) := by decide +kernel
theorem dX0_fitting_16 : decode cX0_fitting 16 = .ok (.iload_n 3, 1) := by decide +kernel
theorem dX0_fitting_17 : decode cX0_fitting 17 = .ok (.invokevirtual 137, 3) := by decide +kernel
theorem dX0_fitting_20 : decode cX0_fitting 20 = .ok (.land, 1) := by decide +kernel
theorem dX0_fitting_21 : decode cX0_fitting 21 = .ok (.lstore_n 1, 1) := by decide +kernel
theorem dX0_fitting_22 : decode cX0_fitting 22 = .ok (.iinc 3 1, 3) := by decide +kernel
theorem dX0_fitting_25 : decode cX0_fitting 25 = .ok (.goto (-19), 3) := by decide +kernel
theorem dX0_fitting_28 : decode cX0_fitting 28 = .ok (.lload_n 1, 1) := by decide +kernel
theorem dX0_fitting_29 : decode cX0_fitting 29 = .ok (.lreturn, 1) := by decide +kernel
set_option maxRecDepth 20000 in
theorem ggX0_juryFitting_X0_saying : GoodIn wsX0_juryFitting wsX0_saying := goodIn_r _ [11, 1, 12, 13, 14, 10, 15, 16, 17, 18, 19, 20, 21, 22, 23, 24, 25, 3, 26, 27, 28, 29, 30, 31, 32, 33, 34, 35, 36, 37, 38, 39, 40, 41, 42, 43, 44, 45, 46, 47, 48, 49, 50, 51, 52, 53, 54, 55, 56, 57, 58, 59, 60, 61, 62, 63, 64, 65, 66] (by decide +kernel) (by decide +kernel)
set_option maxRecDepth 20000 in
theorem gX0_juryFitting_X0_saying : GoodIn wsX0_juryFitting (wsV RX0 130 RX0 yX0_saying wsX0_saying) := goodIn_app (goodIn_of _ (by decide +kernel)) ggX0_juryFitting_X0_saying
theorem dX0_juryFitting_0 : decode cX0_juryFitting 0 = .ok (.ldc2_w 96, 3) := by decide +kernel
theorem dX0_juryFitting_3 : decode cX0_juryFitting 3 = .ok (.lstore_n 1, 1) := by decide +kernel
theorem dX0_juryFitting_4 : decode cX0_juryFitting 4 = .ok (.iconst 0, 1) := by decide +kernel
theorem dX0_juryFitting_5 : decode cX0_juryFitting 5 = .ok (.istore_n 3, 1) := by decide +kernel
theorem dX0_juryFitting_6 : decode cX0_juryFitting 6 = .ok (.iload_n 3, 1) := by decide +kernel
theorem dX0_juryFitting_7 : decode cX0_juryFitting 7 = .ok (.aload_n 0, 1) := by decide +kernel
theorem dX0_juryFitting_8 : decode cX0_juryFitting 8 = .ok (.getfield 62, 3) := by decide +kernel
theorem dX0_juryFitting_11 : decode cX0_juryFitting 11 = .ok (.if_icmp .ge 64, 3) := by decide +kernel
theorem dX0_juryFitting_14 : decode cX0_juryFitting 14 = .ok (.lconst 0, 1) := by decide +kernel
theorem dX0_juryFitting_15 : decode cX0_juryFitting 15 = .ok (.lstore 4, 2) := by decide +kernel
theorem dX0_juryFitting_17 : decode cX0_juryFitting 17 = .ok (.iconst 0, 1) := by decide +kernel
theorem dX0_juryFitting_18 : decode cX0_juryFitting 18 = .ok (.istore 6, 2) := by decide +kernel
theorem dX0_juryFitting_20 : decode cX0_juryFitting 20 = .ok (.iload 6, 2) := by decide +kernel
theorem dX0_juryFitting_22 : decode cX0_juryFitting 22 = .ok (.aload_n 0, 1) := by decide +kernel
theorem dX0_juryFitting_23 : decode cX0_juryFitting 23 = .ok (.getfield 56, 3) := by decide +kernel
theorem dX0_juryFitting_26 : decode cX0_juryFitting 26 = .ok (.if_icmp .ge 38, 3) := by decide +kernel
theorem dX0_juryFitting_29 : decode cX0_juryFitting 29 = .ok (.lload 4, 2) := by decide +kernel
theorem dX0_juryFitting_31 : decode cX0_juryFitting 31 = .ok (.aload_n 0, 1) := by decide +kernel
theorem dX0_juryFitting_32 : decode cX0_juryFitting 32 = .ok (.aload_n 0, 1) := by decide +kernel
theorem dX0_juryFitting_33 : decode cX0_juryFitting 33 = .ok (.getfield 37, 3) := by decide +kernel
theorem dX0_juryFitting_36 : decode cX0_juryFitting 36 = .ok (.iload_n 3, 1) := by decide +kernel
theorem dX0_juryFitting_37 : decode cX0_juryFitting 37 = .ok (.iaload, 1) := by decide +kernel
theorem dX0_juryFitting_38 : decode cX0_juryFitting 38 = .ok (.iload 6, 2) := by decide +kernel
theorem dX0_juryFitting_40 : decode cX0_juryFitting 40 = .ok (.aload_n 0, 1) := by decide +kernel
theorem dX0_juryFitting_41 : decode cX0_juryFitting 41 = .ok (.getfield 46, 3) := by decide +kernel
theorem dX0_juryFitting_44 : decode cX0_juryFitting 44 = .ok (.iload_n 3, 1) := by decide +kernel
theorem dX0_juryFitting_45 : decode cX0_juryFitting 45 = .ok (.iaload, 1) := by decide +kernel
theorem dX0_juryFitting_46 : decode cX0_juryFitting 46 = .ok (.aload_n 0, 1) := by decide +kernel
theorem dX0_juryFitting_47 : decode cX0_juryFitting 47 = .ok (.getfield 43, 3) := by decide +kernel
theorem dX0_juryFitting_50 : decode cX0_juryFitting 50 = .ok (.iload_n 3, 1) := by decide +kernel
theorem dX0_juryFitting_51 : decode cX0_juryFitting 51 = .ok (.iaload, 1) := by decide +kernel
theorem dX0_juryFitting_52 : decode cX0_juryFitting 52 = .ok (.invokevirtual 130, 3) := by decide +kernel
theorem dX0_juryFitting_55 : decode cX0_juryFitting 55 = .ok (.lor, 1) := by decide +kernel
theorem dX0_juryFitting_56 : decode cX0_juryFitting 56 = .ok (.lstore 4, 2) := by decide +kernel
theorem dX0_juryFitting_58 : decode cX0_juryFitting 58 = .ok (.iinc 6 1, 3) := by decide +kernel
theorem dX0_juryFitting_61 : decode cX0_juryFitting 61 = .ok (.goto (-41), 3) := by decide +kernel
theorem dX0_juryFitting_64 : decode cX0_juryFitting 64 = .ok (.lload_n 1, 1) := by decide +kernel
theorem dX0_juryFitting_65 : decode cX0_juryFitting 65 = .ok (.lload 4, 2) := by decide +kernel
theorem dX0_juryFitting_67 : decode cX0_juryFitting 67 = .ok (.land, 1) := by decide +kernel
theorem dX0_juryFitting_68 : decode cX0_juryFitting 68 = .ok (.lstore_n 1, 1) := by decide +kernel
theorem dX0_juryFitting_69 : decode cX0_juryFitting 69 = .ok (.iinc 3 1, 3) := by decide +kernel
theorem dX0_juryFitting_72 : decode cX0_juryFitting 72 = .ok (.goto (-66), 3) := by decide +kernel
theorem dX0_juryFitting_75 : decode cX0_juryFitting 75 = .ok (.lload_n 1, 1) := by decide +kernel
theorem dX0_juryFitting_76 : decode cX0_juryFitting 76 = .ok (.lreturn, 1) := by decide +kernel
set_option maxRecDepth 20000 in
theorem ggX0_untruths_X0_truthOf : GoodIn wsX0_untruths wsX0_truthOf := goodIn_r _ [10, 11, 12, 13, 14, 9, 15, 16, 17, 18, 19, 20, 21, 22, 23, 24, 25, 26, 27, 28, 29, 30, 31, 32, 33] (by decide +kernel) (by decide +kernel)
set_option maxRecDepth 20000 in
theorem gX0_untruths_X0_truthOf : GoodIn wsX0_untruths (wsV RX0 98 RX0 yX0_truthOf wsX0_truthOf) := goodIn_app (goodIn_of _ (by decide +kernel)) ggX0_untruths_X0_truthOf
theorem dX0_untruths_0 : decode cX0_untruths 0 = .ok (.lconst 0, 1) := by decide +kernel
theorem dX0_untruths_1 : decode cX0_untruths 1 = .ok (.lstore_n 2, 1) := by decide +kernel
theorem dX0_untruths_2 : decode cX0_untruths 2 = .ok (.iconst 0, 1) := by decide +kernel
theorem dX0_untruths_3 : decode cX0_untruths 3 = .ok (.istore 4, 2) := by decide +kernel
theorem dX0_untruths_5 : decode cX0_untruths 5 = .ok (.iload 4, 2) := by decide +kernel
theorem dX0_untruths_7 : decode cX0_untruths 7 = .ok (.aload_n 0, 1) := by decide +kernel
theorem dX0_untruths_8 : decode cX0_untruths 8 = .ok (.getfield 62, 3) := by decide +kernel
theorem dX0_untruths_11 : decode cX0_untruths 11 = .ok (.if_icmp .ge 68, 3) := by decide +kernel
theorem dX0_untruths_14 : decode cX0_untruths 14 = .ok (.aload_n 0, 1) := by decide +kernel
theorem dX0_untruths_15 : decode cX0_untruths 15 = .ok (.getfield 43, 3) := by decide +kernel
theorem dX0_untruths_18 : decode cX0_untruths 18 = .ok (.iload 4, 2) := by decide +kernel
theorem dX0_untruths_20 : decode cX0_untruths 20 = .ok (.iaload, 1) := by decide +kernel
theorem dX0_untruths_21 : decode cX0_untruths 21 = .ok (.istore 5, 2) := by decide +kernel
theorem dX0_untruths_23 : decode cX0_untruths 23 = .ok (.aload_n 0, 1) := by decide +kernel
theorem dX0_untruths_24 : decode cX0_untruths 24 = .ok (.getfield 37, 3) := by decide +kernel
theorem dX0_untruths_27 : decode cX0_untruths 27 = .ok (.iload 4, 2) := by decide +kernel
theorem dX0_untruths_29 : decode cX0_untruths 29 = .ok (.iaload, 1) := by decide +kernel
theorem dX0_untruths_30 : decode cX0_untruths 30 = .ok (.iload_n 1, 1) := by decide +kernel
theorem dX0_untruths_31 : decode cX0_untruths 31 = .ok (.if_icmp .ne 42, 3) := by decide +kernel
theorem dX0_untruths_34 : decode cX0_untruths 34 = .ok (.iload 5, 2) := by decide +kernel
theorem dX0_untruths_36 : decode cX0_untruths 36 = .ok (.iconst 2, 1) := by decide +kernel
theorem dX0_untruths_37 : decode cX0_untruths 37 = .ok (.if_icmp .eq 36, 3) := by decide +kernel
theorem dX0_untruths_40 : decode cX0_untruths 40 = .ok (.aload_n 0, 1) := by decide +kernel
theorem dX0_untruths_41 : decode cX0_untruths 41 = .ok (.aload_n 0, 1) := by decide +kernel
theorem dX0_untruths_42 : decode cX0_untruths 42 = .ok (.getfield 40, 3) := by decide +kernel
theorem dX0_untruths_45 : decode cX0_untruths 45 = .ok (.iload 4, 2) := by decide +kernel
theorem dX0_untruths_47 : decode cX0_untruths 47 = .ok (.iaload, 1) := by decide +kernel
theorem dX0_untruths_48 : decode cX0_untruths 48 = .ok (.invokevirtual 98, 3) := by decide +kernel
theorem dX0_untruths_51 : decode cX0_untruths 51 = .ok (.lstore 6, 2) := by decide +kernel
theorem dX0_untruths_53 : decode cX0_untruths 53 = .ok (.lload_n 2, 1) := by decide +kernel
theorem dX0_untruths_54 : decode cX0_untruths 54 = .ok (.iload 5, 2) := by decide +kernel
theorem dX0_untruths_56 : decode cX0_untruths 56 = .ok (.iconst 1, 1) := by decide +kernel
theorem dX0_untruths_57 : decode cX0_untruths 57 = .ok (.if_icmp .ne 12, 3) := by decide +kernel
theorem dX0_untruths_60 : decode cX0_untruths 60 = .ok (.lload 6, 2) := by decide +kernel
theorem dX0_untruths_62 : decode cX0_untruths 62 = .ok (.ldc2_w 96, 3) := by decide +kernel
theorem dX0_untruths_65 : decode cX0_untruths 65 = .ok (.lxor, 1) := by decide +kernel
theorem dX0_untruths_66 : decode cX0_untruths 66 = .ok (.goto 5, 3) := by decide +kernel
theorem dX0_untruths_69 : decode cX0_untruths 69 = .ok (.lload 6, 2) := by decide +kernel
theorem dX0_untruths_71 : decode cX0_untruths 71 = .ok (.lor, 1) := by decide +kernel
theorem dX0_untruths_72 : decode cX0_untruths 72 = .ok (.lstore_n 2, 1) := by decide +kernel
theorem dX0_untruths_73 : decode cX0_untruths 73 = .ok (.iinc 4 1, 3) := by decide +kernel
theorem dX0_untruths_76 : decode cX0_untruths 76 = .ok (.goto (-71), 3) := by decide +kernel
theorem dX0_untruths_79 : decode cX0_untruths 79 = .ok (.lload_n 2, 1) := by decide +kernel
theorem dX0_untruths_80 : decode cX0_untruths 80 = .ok (.lreturn, 1) := by decide +kernel
theorem dX0_answersOf_0 : decode cX0_answersOf 0 = .ok (.iconst 0, 1) := by decide +kernel
theorem dX0_answersOf_1 : decode cX0_answersOf 1 = .ok (.istore_n 2, 1) := by decide +kernel
theorem dX0_answersOf_2 : decode cX0_answersOf 2 = .ok (.iconst 0, 1) := by decide +kernel
theorem dX0_answersOf_3 : decode cX0_answersOf 3 = .ok (.istore_n 3, 1) := by decide +kernel
theorem dX0_answersOf_4 : decode cX0_answersOf 4 = .ok (.iload_n 3, 1) := by decide +kernel
theorem dX0_answersOf_5 : decode cX0_answersOf 5 = .ok (.aload_n 0, 1) := by decide +kernel
theorem dX0_answersOf_6 : decode cX0_answersOf 6 = .ok (.getfield 62, 3) := by decide +kernel
theorem dX0_answersOf_9 : decode cX0_answersOf 9 = .ok (.if_icmp .ge 32, 3) := by decide +kernel
theorem dX0_answersOf_12 : decode cX0_answersOf 12 = .ok (.aload_n 0, 1) := by decide +kernel
theorem dX0_answersOf_13 : decode cX0_answersOf 13 = .ok (.getfield 37, 3) := by decide +kernel
theorem dX0_answersOf_16 : decode cX0_answersOf 16 = .ok (.iload_n 3, 1) := by decide +kernel
theorem dX0_answersOf_17 : decode cX0_answersOf 17 = .ok (.iaload, 1) := by decide +kernel
theorem dX0_answersOf_18 : decode cX0_answersOf 18 = .ok (.iload_n 1, 1) := by decide +kernel
theorem dX0_answersOf_19 : decode cX0_answersOf 19 = .ok (.if_icmp .ne 16, 3) := by decide +kernel
theorem dX0_answersOf_22 : decode cX0_answersOf 22 = .ok (.aload_n 0, 1) := by decide +kernel
theorem dX0_answersOf_23 : decode cX0_answersOf 23 = .ok (.getfield 43, 3) := by decide +kernel
theorem dX0_answersOf_26 : decode cX0_answersOf 26 = .ok (.iload_n 3, 1) := by decide +kernel
theorem dX0_answersOf_27 : decode cX0_answersOf 27 = .ok (.iaload, 1) := by decide +kernel
theorem dX0_answersOf_28 : decode cX0_answersOf 28 = .ok (.iconst 2, 1) := by decide +kernel
theorem dX0_answersOf_29 : decode cX0_answersOf 29 = .ok (.if_icmp .eq 6, 3) := by decide +kernel
theorem dX0_answersOf_32 : decode cX0_answersOf 32 = .ok (.iinc 2 1, 3) := by decide +kernel
theorem dX0_answersOf_35 : decode cX0_answersOf 35 = .ok (.iinc 3 1, 3) := by decide +kernel
theorem dX0_answersOf_38 : decode cX0_answersOf 38 = .ok (.goto (-34), 3) := by decide +kernel
theorem dX0_answersOf_41 : decode cX0_answersOf 41 = .ok (.iload_n 2, 1) := by decide +kernel
theorem dX0_answersOf_42 : decode cX0_answersOf 42 = .ok (.ireturn, 1) := by decide +kernel
theorem dX1_init_0 : decode cX1_init 0 = .ok (.aload_n 0, 1) := by decide +kernel
theorem dX1_init_1 : decode cX1_init 1 = .ok (.invokespecial 3, 3) := by decide +kernel
theorem dX1_init_4 : decode cX1_init 4 = .ok (.aload_n 0, 1) := by decide +kernel
theorem dX1_init_5 : decode cX1_init 5 = .ok (.bipush 96, 2) := by decide +kernel
theorem dX1_init_7 : decode cX1_init 7 = .ok (.newarray .char, 2) := by decide +kernel
theorem dX1_init_9 : decode cX1_init 9 = .ok (.putfield 9, 3) := by decide +kernel
theorem dX1_init_12 : decode cX1_init 12 = .ok (.return_, 1) := by decide +kernel
theorem dX1_add_0 : decode cX1_add 0 = .ok (.aload_n 0, 1) := by decide +kernel
theorem dX1_add_1 : decode cX1_add 1 = .ok (.getfield 15, 3) := by decide +kernel
theorem dX1_add_4 : decode cX1_add 4 = .ok (.bipush 96, 2) := by decide +kernel
theorem dX1_add_6 : decode cX1_add 6 = .ok (.if_icmp .ge 23, 3) := by decide +kernel
theorem dX1_add_9 : decode cX1_add 9 = .ok (.aload_n 0, 1) := by decide +kernel
theorem dX1_add_10 : decode cX1_add 10 = .ok (.getfield 9, 3) := by decide +kernel
theorem dX1_add_13 : decode cX1_add 13 = .ok (.aload_n 0, 1) := by decide +kernel
theorem dX1_add_14 : decode cX1_add 14 = .ok (.getfield 15, 3) := by decide +kernel
theorem dX1_add_17 : decode cX1_add 17 = .ok (.iload_n 1, 1) := by decide +kernel
theorem dX1_add_18 : decode cX1_add 18 = .ok (.castore, 1) := by decide +kernel
theorem dX1_add_19 : decode cX1_add 19 = .ok (.aload_n 0, 1) := by decide +kernel
theorem dX1_add_20 : decode cX1_add 20 = .ok (.dup, 1) := by decide +kernel
theorem dX1_add_21 : decode cX1_add 21 = .ok (.getfield 15, 3) := by decide +kernel
theorem dX1_add_24 : decode cX1_add 24 = .ok (.iconst 1, 1) := by decide +kernel
theorem dX1_add_25 : decode cX1_add 25 = .ok (.iadd, 1) := by decide +kernel
theorem dX1_add_26 : decode cX1_add 26 = .ok (.putfield 15, 3) := by decide +kernel
theorem dX1_add_29 : decode cX1_add 29 = .ok (.return_, 1) := by decide +kernel
theorem dX1_shape_0 : decode cX1_shape 0 = .ok (.iload_n 0, 1) := by decide +kernel
theorem dX1_shape_1 : decode cX1_shape 1 = .ok (.lookupswitch 77 #[(97, 71), (102, 59), (107, 68), (110, 74), (113, 62), (119, 65)], 59) := by decide +kernel
theorem dX1_shape_60 : decode cX1_shape 60 = .ok (.ldc 19, 2) := by decide +kernel
theorem dX1_shape_62 : decode cX1_shape 62 = .ok (.areturn, 1) := by decide +kernel
theorem dX1_shape_63 : decode cX1_shape 63 = .ok (.ldc 21, 2) := by decide +kernel
theorem dX1_shape_65 : decode cX1_shape 65 = .ok (.areturn, 1) := by decide +kernel
theorem dX1_shape_66 : decode cX1_shape 66 = .ok (.ldc 23, 2) := by decide +kernel
theorem dX1_shape_68 : decode cX1_shape 68 = .ok (.areturn, 1) := by decide +kernel
theorem dX1_shape_69 : decode cX1_shape 69 = .ok (.ldc 25, 2) := by decide +kernel
theorem dX1_shape_71 : decode cX1_shape 71 = .ok (.areturn, 1) := by decide +kernel
theorem dX1_shape_72 : decode cX1_shape 72 = .ok (.ldc 25, 2) := by decide +kernel
theorem dX1_shape_74 : decode cX1_shape 74 = .ok (.areturn, 1) := by decide +kernel
theorem dX1_shape_75 : decode cX1_shape 75 = .ok (.ldc 27, 2) := by decide +kernel
theorem dX1_shape_77 : decode cX1_shape 77 = .ok (.areturn, 1) := by decide +kernel
theorem dX1_shape_78 : decode cX1_shape 78 = .ok (.ldc 29, 2) := by decide +kernel
theorem dX1_shape_80 : decode cX1_shape 80 = .ok (.areturn, 1) := by decide +kernel
set_option maxRecDepth 20000 in
theorem ggX1_isOfShape_J0_indexOf_0f7a4 : GoodIn wsX1_isOfShape wsJ0_indexOf_0f7a4 := goodIn_r _ [5, 6, 7, 8, 4, 9, 10, 11, 12, 13, 14, 15, 16, 17, 18, 19, 20, 21, 22, 23, 24, 25, 26, 27, 28, 29, 30, 31, 32, 33, 34, 35, 36, 37, 38, 39, 40, 41, 42, 43, 44, 45, 46, 47, 48, 49, 50, 51, 52, 53, 54, 55, 56, 57, 58, 59, 60, 61, 62, 63, 64, 65, 66, 67, 68, 69, 70, 71, 72, 73, 74, 75, 76, 77, 78, 79, 80, 81, 82, 83, 84, 85, 86, 87, 88, 89] (by decide +kernel) (by decide +kernel)
set_option maxRecDepth 20000 in
theorem gX1_isOfShape_J0_indexOf_0f7a4 : GoodIn wsX1_isOfShape (wsV RX1 33 RJ0 yJ0_indexOf_0f7a4 wsJ0_indexOf_0f7a4) := goodIn_app (goodIn_of _ (by decide +kernel)) ggX1_isOfShape_J0_indexOf_0f7a4
theorem dX1_isOfShape_0 : decode cX1_isOfShape 0 = .ok (.iload_n 1, 1) := by decide +kernel
theorem dX1_isOfShape_1 : decode cX1_isOfShape 1 = .ok (.lookupswitch 60 #[(57, 27), (119, 45)], 27) := by decide +kernel
theorem dX1_isOfShape_28 : decode cX1_isOfShape 28 = .ok (.iload_n 0, 1) := by decide +kernel
theorem dX1_isOfShape_29 : decode cX1_isOfShape 29 = .ok (.bipush 48, 2) := by decide +kernel
theorem dX1_isOfShape_31 : decode cX1_isOfShape 31 = .ok (.if_icmp .lt 13, 3) := by decide +kernel
theorem dX1_isOfShape_34 : decode cX1_isOfShape 34 = .ok (.iload_n 0, 1) := by decide +kernel
theorem dX1_isOfShape_35 : decode cX1_isOfShape 35 = .ok (.bipush 57, 2) := by decide +kernel
theorem dX1_isOfShape_37 : decode cX1_isOfShape 37 = .ok (.if_icmp .gt 7, 3) := by decide +kernel
theorem dX1_isOfShape_40 : decode cX1_isOfShape 40 = .ok (.iconst 1, 1) := by decide +kernel
theorem dX1_isOfShape_41 : decode cX1_isOfShape 41 = .ok (.goto 4, 3) := by decide +kernel
theorem dX1_isOfShape_44 : decode cX1_isOfShape 44 = .ok (.iconst 0, 1) := by decide +kernel
theorem dX1_isOfShape_45 : decode cX1_isOfShape 45 = .ok (.ireturn, 1) := by decide +kernel
theorem dX1_isOfShape_46 : decode cX1_isOfShape 46 = .ok (.ldc 31, 2) := by decide +kernel
theorem dX1_isOfShape_48 : decode cX1_isOfShape 48 = .ok (.iload_n 0, 1) := by decide +kernel
theorem dX1_isOfShape_49 : decode cX1_isOfShape 49 = .ok (.invokevirtual 33, 3) := by decide +kernel
theorem dX1_isOfShape_52 : decode cX1_isOfShape 52 = .ok (.ifCond .lt 7, 3) := by decide +kernel
theorem dX1_isOfShape_55 : decode cX1_isOfShape 55 = .ok (.iconst 1, 1) := by decide +kernel
theorem dX1_isOfShape_56 : decode cX1_isOfShape 56 = .ok (.goto 4, 3) := by decide +kernel
theorem dX1_isOfShape_59 : decode cX1_isOfShape 59 = .ok (.iconst 0, 1) := by decide +kernel
theorem dX1_isOfShape_60 : decode cX1_isOfShape 60 = .ok (.ireturn, 1) := by decide +kernel
theorem dX1_isOfShape_61 : decode cX1_isOfShape 61 = .ok (.iload_n 0, 1) := by decide +kernel
theorem dX1_isOfShape_62 : decode cX1_isOfShape 62 = .ok (.iload_n 1, 1) := by decide +kernel
theorem dX1_isOfShape_63 : decode cX1_isOfShape 63 = .ok (.if_icmp .ne 7, 3) := by decide +kernel
theorem dX1_isOfShape_66 : decode cX1_isOfShape 66 = .ok (.iconst 1, 1) := by decide +kernel
theorem dX1_isOfShape_67 : decode cX1_isOfShape 67 = .ok (.goto 4, 3) := by decide +kernel
theorem dX1_isOfShape_70 : decode cX1_isOfShape 70 = .ok (.iconst 0, 1) := by decide +kernel
theorem dX1_isOfShape_71 : decode cX1_isOfShape 71 = .ok (.ireturn, 1) := by decide +kernel
set_option maxRecDepth 20000 in
theorem ggX1_brokenPlace_J0_length_8abf5 : GoodIn wsX1_brokenPlace wsJ0_length_8abf5 := goodIn_r _ [7, 8, 9, 10, 11, 6, 12, 13, 14] (by decide +kernel) (by decide +kernel)
set_option maxRecDepth 20000 in
theorem gX1_brokenPlace_J0_length_8abf5 : GoodIn wsX1_brokenPlace (wsV RX1 39 RJ0 yJ0_length_8abf5 wsJ0_length_8abf5) := goodIn_app (goodIn_of _ (by decide +kernel)) ggX1_brokenPlace_J0_length_8abf5
set_option maxRecDepth 20000 in
theorem ggX1_brokenPlace_X1_shape : GoodIn wsX1_brokenPlace wsX1_shape := goodIn_r _ [18] (by decide +kernel) (by decide +kernel)
set_option maxRecDepth 20000 in
theorem gX1_brokenPlace_X1_shape : GoodIn wsX1_brokenPlace (va_wsS RX1 42 yX1_shape wsX1_shape) := goodIn_app (goodIn_of _ (by decide +kernel)) ggX1_brokenPlace_X1_shape
set_option maxRecDepth 20000 in
theorem ggX1_brokenPlace_J0_isEmpty_aae02 : GoodIn wsX1_brokenPlace wsJ0_isEmpty_aae02 := goodIn_r _ [22, 8] (by decide +kernel) (by decide +kernel)
set_option maxRecDepth 20000 in
theorem gX1_brokenPlace_J0_isEmpty_aae02 : GoodIn wsX1_brokenPlace (wsV RX1 46 RJ0 yJ0_isEmpty_aae02 wsJ0_isEmpty_aae02) := goodIn_app (goodIn_of _ (by decide +kernel)) ggX1_brokenPlace_J0_isEmpty_aae02
set_option maxRecDepth 20000 in
theorem ggX1_brokenPlace_J0_charAt_5068e : GoodIn wsX1_brokenPlace wsJ0_charAt_5068e := goodIn_r _ [26, 8, 27, 28, 29, 6, 30, 13, 14, 31, 32, 33, 34, 35, 36, 37, 38, 39, 40, 41, 42, 43, 44, 45, 46, 47, 48, 49, 50, 51, 52, 53, 54, 55, 56, 57, 58, 59] (by decide +kernel) (by decide +kernel)
set_option maxRecDepth 20000 in
theorem gX1_brokenPlace_J0_charAt_5068e : GoodIn wsX1_brokenPlace (wsV RX1 50 RJ0 yJ0_charAt_5068e wsJ0_charAt_5068e) := goodIn_app (goodIn_of _ (by decide +kernel)) ggX1_brokenPlace_J0_charAt_5068e
set_option maxRecDepth 20000 in
theorem ggX1_brokenPlace_X1_isOfShape : GoodIn wsX1_brokenPlace wsX1_isOfShape := goodIn_r _ [62, 63, 64, 65, 6, 66, 67, 68, 69, 70, 8, 27, 28, 29, 30, 13, 14, 71, 4, 5, 7, 9, 10, 11, 12, 72, 73, 33, 74, 75, 76, 77, 78, 79, 80, 81, 82, 83, 84, 85, 86, 87, 88, 89, 45, 90, 91, 92, 93, 94, 95, 96, 97, 98, 99, 50, 51, 52, 100, 101, 102, 38, 103, 104, 41, 105, 106, 107, 108, 54, 55, 56, 57, 58, 59, 109, 110, 111, 112, 113, 114, 115, 116, 117, 118, 119, 120, 121, 122, 123] (by decide +kernel) (by decide +kernel)
set_option maxRecDepth 20000 in
theorem gX1_brokenPlace_X1_isOfShape : GoodIn wsX1_brokenPlace (va_wsS RX1 54 yX1_isOfShape wsX1_isOfShape) := goodIn_app (goodIn_of _ (by decide +kernel)) ggX1_brokenPlace_X1_isOfShape
theorem dX1_brokenPlace_0 : decode cX1_brokenPlace 0 = .ok (.ldc 29, 2) := by decide +kernel
theorem dX1_brokenPlace_2 : decode cX1_brokenPlace 2 = .ok (.astore_n 1, 1) := by decide +kernel
theorem dX1_brokenPlace_3 : decode cX1_brokenPlace 3 = .ok (.iconst 0, 1) := by decide +kernel
theorem dX1_brokenPlace_4 : decode cX1_brokenPlace 4 = .ok (.istore_n 2, 1) := by decide +kernel
theorem dX1_brokenPlace_5 : decode cX1_brokenPlace 5 = .ok (.iconst 0, 1) := by decide +kernel
theorem dX1_brokenPlace_6 : decode cX1_brokenPlace 6 = .ok (.istore_n 3, 1) := by decide +kernel
theorem dX1_brokenPlace_7 : decode cX1_brokenPlace 7 = .ok (.iload_n 3, 1) := by decide +kernel
theorem dX1_brokenPlace_8 : decode cX1_brokenPlace 8 = .ok (.aload_n 0, 1) := by decide +kernel
theorem dX1_brokenPlace_9 : decode cX1_brokenPlace 9 = .ok (.getfield 15, 3) := by decide +kernel
theorem dX1_brokenPlace_12 : decode cX1_brokenPlace 12 = .ok (.if_icmp .ge 63, 3) := by decide +kernel
theorem dX1_brokenPlace_15 : decode cX1_brokenPlace 15 = .ok (.iload_n 2, 1) := by decide +kernel
theorem dX1_brokenPlace_16 : decode cX1_brokenPlace 16 = .ok (.aload_n 1, 1) := by decide +kernel
theorem dX1_brokenPlace_17 : decode cX1_brokenPlace 17 = .ok (.invokevirtual 39, 3) := by decide +kernel
theorem dX1_brokenPlace_20 : decode cX1_brokenPlace 20 = .ok (.if_icmp .lt 24, 3) := by decide +kernel
theorem dX1_brokenPlace_23 : decode cX1_brokenPlace 23 = .ok (.aload_n 0, 1) := by decide +kernel
theorem dX1_brokenPlace_24 : decode cX1_brokenPlace 24 = .ok (.getfield 9, 3) := by decide +kernel
theorem dX1_brokenPlace_27 : decode cX1_brokenPlace 27 = .ok (.iload_n 3, 1) := by decide +kernel
theorem dX1_brokenPlace_28 : decode cX1_brokenPlace 28 = .ok (.caload, 1) := by decide +kernel
theorem dX1_brokenPlace_29 : decode cX1_brokenPlace 29 = .ok (.invokestatic 42, 3) := by decide +kernel
theorem dX1_brokenPlace_32 : decode cX1_brokenPlace 32 = .ok (.astore_n 1, 1) := by decide +kernel
theorem dX1_brokenPlace_33 : decode cX1_brokenPlace 33 = .ok (.iconst 0, 1) := by decide +kernel
theorem dX1_brokenPlace_34 : decode cX1_brokenPlace 34 = .ok (.istore_n 2, 1) := by decide +kernel
theorem dX1_brokenPlace_35 : decode cX1_brokenPlace 35 = .ok (.aload_n 1, 1) := by decide +kernel
theorem dX1_brokenPlace_36 : decode cX1_brokenPlace 36 = .ok (.invokevirtual 46, 3) := by decide +kernel
theorem dX1_brokenPlace_39 : decode cX1_brokenPlace 39 = .ok (.ifCond .eq 30, 3) := by decide +kernel
theorem dX1_brokenPlace_42 : decode cX1_brokenPlace 42 = .ok (.iload_n 3, 1) := by decide +kernel
theorem dX1_brokenPlace_43 : decode cX1_brokenPlace 43 = .ok (.ireturn, 1) := by decide +kernel
theorem dX1_brokenPlace_44 : decode cX1_brokenPlace 44 = .ok (.aload_n 0, 1) := by decide +kernel
theorem dX1_brokenPlace_45 : decode cX1_brokenPlace 45 = .ok (.getfield 9, 3) := by decide +kernel
theorem dX1_brokenPlace_48 : decode cX1_brokenPlace 48 = .ok (.iload_n 3, 1) := by decide +kernel
theorem dX1_brokenPlace_49 : decode cX1_brokenPlace 49 = .ok (.caload, 1) := by decide +kernel
theorem dX1_brokenPlace_50 : decode cX1_brokenPlace 50 = .ok (.aload_n 1, 1) := by decide +kernel
theorem dX1_brokenPlace_51 : decode cX1_brokenPlace 51 = .ok (.iload_n 2, 1) := by decide +kernel
theorem dX1_brokenPlace_52 : decode cX1_brokenPlace 52 = .ok (.invokevirtual 50, 3) := by decide +kernel
theorem dX1_brokenPlace_55 : decode cX1_brokenPlace 55 = .ok (.invokestatic 54, 3) := by decide +kernel
theorem dX1_brokenPlace_58 : decode cX1_brokenPlace 58 = .ok (.ifCond .eq 9, 3) := by decide +kernel
theorem dX1_brokenPlace_61 : decode cX1_brokenPlace 61 = .ok (.iinc 2 1, 3) := by decide +kernel
theorem dX1_brokenPlace_64 : decode cX1_brokenPlace 64 = .ok (.goto 5, 3) := by decide +kernel
theorem dX1_brokenPlace_67 : decode cX1_brokenPlace 67 = .ok (.iload_n 3, 1) := by decide +kernel
theorem dX1_brokenPlace_68 : decode cX1_brokenPlace 68 = .ok (.ireturn, 1) := by decide +kernel
theorem dX1_brokenPlace_69 : decode cX1_brokenPlace 69 = .ok (.iinc 3 1, 3) := by decide +kernel
theorem dX1_brokenPlace_72 : decode cX1_brokenPlace 72 = .ok (.goto (-65), 3) := by decide +kernel
theorem dX1_brokenPlace_75 : decode cX1_brokenPlace 75 = .ok (.aload_n 0, 1) := by decide +kernel
theorem dX1_brokenPlace_76 : decode cX1_brokenPlace 76 = .ok (.getfield 15, 3) := by decide +kernel
theorem dX1_brokenPlace_79 : decode cX1_brokenPlace 79 = .ok (.ifCond .eq 11, 3) := by decide +kernel
theorem dX1_brokenPlace_82 : decode cX1_brokenPlace 82 = .ok (.iload_n 2, 1) := by decide +kernel
theorem dX1_brokenPlace_83 : decode cX1_brokenPlace 83 = .ok (.aload_n 1, 1) := by decide +kernel
theorem dX1_brokenPlace_84 : decode cX1_brokenPlace 84 = .ok (.invokevirtual 39, 3) := by decide +kernel
theorem dX1_brokenPlace_87 : decode cX1_brokenPlace 87 = .ok (.if_icmp .ge 10, 3) := by decide +kernel
theorem dX1_brokenPlace_90 : decode cX1_brokenPlace 90 = .ok (.aload_n 0, 1) := by decide +kernel
theorem dX1_brokenPlace_91 : decode cX1_brokenPlace 91 = .ok (.getfield 15, 3) := by decide +kernel
theorem dX1_brokenPlace_94 : decode cX1_brokenPlace 94 = .ok (.goto 4, 3) := by decide +kernel
theorem dX1_brokenPlace_97 : decode cX1_brokenPlace 97 = .ok (.iconst (-1), 1) := by decide +kernel
theorem dX1_brokenPlace_98 : decode cX1_brokenPlace 98 = .ok (.ireturn, 1) := by decide +kernel
set_option maxRecDepth 20000 in
theorem ggX1_statementLength_X1_sign : GoodIn wsX1_statementLength wsX1_sign := goodIn_r _ [5, 6, 7, 23, 24] (by decide +kernel) (by decide +kernel)
set_option maxRecDepth 20000 in
theorem gX1_statementLength_X1_sign : GoodIn wsX1_statementLength (wsV RX1 58 RX1 yX1_sign wsX1_sign) := goodIn_app (goodIn_of _ (by decide +kernel)) ggX1_statementLength_X1_sign
set_option maxRecDepth 20000 in
theorem ggX1_statementLength_X1_shape : GoodIn wsX1_statementLength wsX1_shape := goodIn_r _ [10] (by decide +kernel) (by decide +kernel)
set_option maxRecDepth 20000 in
theorem gX1_statementLength_X1_shape : GoodIn wsX1_statementLength (va_wsS RX1 42 yX1_shape wsX1_shape) := goodIn_app (goodIn_of _ (by decide +kernel)) ggX1_statementLength_X1_shape
set_option maxRecDepth 20000 in
theorem ggX1_statementLength_J0_length_8abf5 : GoodIn wsX1_statementLength wsJ0_length_8abf5 := goodIn_r _ [15, 16, 17, 18, 19, 14, 20, 21, 22] (by decide +kernel) (by decide +kernel)
set_option maxRecDepth 20000 in
theorem gX1_statementLength_J0_length_8abf5 : GoodIn wsX1_statementLength (wsV RX1 39 RJ0 yJ0_length_8abf5 wsJ0_length_8abf5) := goodIn_app (goodIn_of _ (by decide +kernel)) ggX1_statementLength_J0_length_8abf5
theorem dX1_statementLength_0 : decode cX1_statementLength 0 = .ok (.iconst 1, 1) := by decide +kernel
theorem dX1_statementLength_1 : decode cX1_statementLength 1 = .ok (.aload_n 0, 1) := by decide +kernel
theorem dX1_statementLength_2 : decode cX1_statementLength 2 = .ok (.iload_n 1, 1) := by decide +kernel
theorem dX1_statementLength_3 : decode cX1_statementLength 3 = .ok (.invokevirtual 58, 3) := by decide +kernel
theorem dX1_statementLength_6 : decode cX1_statementLength 6 = .ok (.invokestatic 42, 3) := by decide +kernel
theorem dX1_statementLength_9 : decode cX1_statementLength 9 = .ok (.invokevirtual 39, 3) := by decide +kernel
theorem dX1_statementLength_12 : decode cX1_statementLength 12 = .ok (.iadd, 1) := by decide +kernel
theorem dX1_statementLength_13 : decode cX1_statementLength 13 = .ok (.ireturn, 1) := by decide +kernel
theorem dX1_sign_0 : decode cX1_sign 0 = .ok (.iload_n 1, 1) := by decide +kernel
theorem dX1_sign_1 : decode cX1_sign 1 = .ok (.ifCond .lt 26, 3) := by decide +kernel
theorem dX1_sign_4 : decode cX1_sign 4 = .ok (.iload_n 1, 1) := by decide +kernel
theorem dX1_sign_5 : decode cX1_sign 5 = .ok (.aload_n 0, 1) := by decide +kernel
theorem dX1_sign_6 : decode cX1_sign 6 = .ok (.getfield 15, 3) := by decide +kernel
theorem dX1_sign_9 : decode cX1_sign 9 = .ok (.if_icmp .ge 18, 3) := by decide +kernel
theorem dX1_sign_12 : decode cX1_sign 12 = .ok (.iload_n 1, 1) := by decide +kernel
theorem dX1_sign_13 : decode cX1_sign 13 = .ok (.bipush 96, 2) := by decide +kernel
theorem dX1_sign_15 : decode cX1_sign 15 = .ok (.if_icmp .ge 12, 3) := by decide +kernel
theorem dX1_sign_18 : decode cX1_sign 18 = .ok (.aload_n 0, 1) := by decide +kernel
theorem dX1_sign_19 : decode cX1_sign 19 = .ok (.getfield 9, 3) := by decide +kernel
theorem dX1_sign_22 : decode cX1_sign 22 = .ok (.iload_n 1, 1) := by decide +kernel
theorem dX1_sign_23 : decode cX1_sign 23 = .ok (.caload, 1) := by decide +kernel
theorem dX1_sign_24 : decode cX1_sign 24 = .ok (.goto 4, 3) := by decide +kernel
theorem dX1_sign_27 : decode cX1_sign 27 = .ok (.iconst 0, 1) := by decide +kernel
theorem dX1_sign_28 : decode cX1_sign 28 = .ok (.ireturn, 1) := by decide +kernel
set_option maxRecDepth 20000 in
theorem ggX1_digit_X1_sign : GoodIn wsX1_digit wsX1_sign := goodIn_r _ [5, 6, 7, 8, 9] (by decide +kernel) (by decide +kernel)
set_option maxRecDepth 20000 in
theorem gX1_digit_X1_sign : GoodIn wsX1_digit (wsV RX1 58 RX1 yX1_sign wsX1_sign) := goodIn_app (goodIn_of _ (by decide +kernel)) ggX1_digit_X1_sign
theorem dX1_digit_0 : decode cX1_digit 0 = .ok (.aload_n 0, 1) := by decide +kernel
theorem dX1_digit_1 : decode cX1_digit 1 = .ok (.iload_n 1, 1) := by decide +kernel
theorem dX1_digit_2 : decode cX1_digit 2 = .ok (.invokevirtual 58, 3) := by decide +kernel
theorem dX1_digit_5 : decode cX1_digit 5 = .ok (.bipush 48, 2) := by decide +kernel
theorem dX1_digit_7 : decode cX1_digit 7 = .ok (.isub, 1) := by decide +kernel
theorem dX1_digit_8 : decode cX1_digit 8 = .ok (.ireturn, 1) := by decide +kernel
set_option maxRecDepth 20000 in
theorem ggX1_play_X1_digit : GoodIn wsX1_play wsX1_digit := goodIn_r _ [6, 7, 8, 9, 5, 10, 11, 12, 222, 223] (by decide +kernel) (by decide +kernel)
set_option maxRecDepth 20000 in
theorem gX1_play_X1_digit : GoodIn wsX1_play (wsV RX1 61 RX1 yX1_digit wsX1_digit) := goodIn_app (goodIn_of _ (by decide +kernel)) ggX1_play_X1_digit
set_option maxRecDepth 20000 in
theorem ggX1_play_X1_sign : GoodIn wsX1_play wsX1_sign := goodIn_r _ [10, 11, 12, 222, 223] (by decide +kernel) (by decide +kernel)
set_option maxRecDepth 20000 in
theorem gX1_play_X1_sign : GoodIn wsX1_play (wsV RX1 58 RX1 yX1_sign wsX1_sign) := goodIn_app (goodIn_of _ (by decide +kernel)) ggX1_play_X1_sign
set_option maxRecDepth 20000 in
theorem ggX1_play_X0_flipFact : GoodIn wsX1_play wsX0_flipFact := goodIn_r _ [17, 18, 19, 20, 21, 205, 206, 207, 208, 209, 210, 211, 212, 213, 214, 215, 216, 217, 218, 219, 220, 221] (by decide +kernel) (by decide +kernel)
set_option maxRecDepth 20000 in
theorem gX1_play_X0_flipFact : GoodIn wsX1_play (wsV RX1 64 RX0 yX0_flipFact wsX0_flipFact) := goodIn_app (goodIn_of _ (by decide +kernel)) ggX1_play_X0_flipFact
set_option maxRecDepth 20000 in
theorem ggX1_play_X0_addQuestion : GoodIn wsX1_play wsX0_addQuestion := goodIn_r _ [25, 26, 27, 28, 29, 30, 31, 19, 20, 21, 32, 33, 34, 35, 36, 37, 16, 38, 39, 205, 206, 207, 208, 209, 210, 211, 212, 213, 214, 215, 216, 217, 218, 219, 220, 221] (by decide +kernel) (by decide +kernel)
set_option maxRecDepth 20000 in
theorem gX1_play_X0_addQuestion : GoodIn wsX1_play (wsV RX1 70 RX0 yX0_addQuestion wsX0_addQuestion) := goodIn_app (goodIn_of _ (by decide +kernel)) ggX1_play_X0_addQuestion
set_option maxRecDepth 20000 in
theorem ggX1_play_X1_playWitness : GoodIn wsX1_play wsX1_playWitness := goodIn_r _ [43, 2, 3, 4, 5, 6, 7, 8, 9, 10, 11, 12, 44, 45, 46, 47, 48, 49, 50, 51, 52, 53, 54, 55, 56, 57, 58, 59, 60, 61, 62, 63, 64, 65, 66, 67, 68, 69, 70, 71, 72, 73, 74, 75, 76, 77, 78, 79, 80, 81, 82, 83, 84, 85, 86, 87, 88, 89, 90, 91, 92, 93, 94, 95, 96, 97, 98, 99, 100, 101, 102, 103, 104, 105, 106, 107, 108, 109, 110, 111, 112, 113, 114, 115, 116, 117, 118, 119, 120, 121, 122, 123, 124, 125, 126, 127, 128, 129, 130, 131, 132, 133, 134, 135, 16, 136, 137, 138, 139, 140, 222, 223, 205, 206, 207, 208, 209, 210, 211, 212, 213, 214, 215, 216, 217, 218, 219, 220, 221] (by decide +kernel) (by decide +kernel)
set_option maxRecDepth 20000 in
theorem gX1_play_X1_playWitness : GoodIn wsX1_play (wsV RX1 74 RX1 yX1_playWitness wsX1_playWitness) := goodIn_app (goodIn_of _ (by decide +kernel)) ggX1_play_X1_playWitness
set_option maxRecDepth 20000 in
theorem ggX1_play_X0_flipKnown : GoodIn wsX1_play wsX0_flipKnown := goodIn_r _ [144, 140, 145, 146, 147, 16, 148, 137, 19, 20, 21, 205, 206, 207, 208, 209, 210, 211, 212, 213, 214, 215, 216, 217, 218, 219, 220, 221] (by decide +kernel) (by decide +kernel)
set_option maxRecDepth 20000 in
theorem gX1_play_X0_flipKnown : GoodIn wsX1_play (wsV RX1 78 RX0 yX0_flipKnown wsX0_flipKnown) := goodIn_app (goodIn_of _ (by decide +kernel)) ggX1_play_X0_flipKnown
set_option maxRecDepth 20000 in
theorem ggX1_play_X0_canAsk : GoodIn wsX1_play wsX0_canAsk := goodIn_r _ [152, 153, 145, 146, 147, 16, 148, 137, 154, 155, 156, 157, 26, 205, 206, 207, 208, 209, 210, 211, 212, 213, 214, 215, 216, 217, 218, 219, 220, 221] (by decide +kernel) (by decide +kernel)
set_option maxRecDepth 20000 in
theorem gX1_play_X0_canAsk : GoodIn wsX1_play (wsV RX1 82 RX0 yX0_canAsk wsX0_canAsk) := goodIn_app (goodIn_of _ (by decide +kernel)) ggX1_play_X0_canAsk
set_option maxRecDepth 20000 in
theorem ggX1_play_X0_ask : GoodIn wsX1_play wsX0_ask := goodIn_r _ [161, 153, 18, 162, 163, 164, 165, 166, 167, 168, 169, 16, 170, 171, 172, 173, 174, 138, 39, 145, 146, 147, 148, 137, 154, 155, 156, 157, 26, 175, 176, 177, 178, 30, 140, 31, 179, 180, 181, 182, 139, 183, 184, 185, 186, 187, 188, 189, 190, 191, 20, 192, 193, 194, 195, 196, 197, 198, 199, 200, 201, 202, 203, 204, 205, 206, 207, 208, 209, 210, 211, 212, 213, 214, 215, 216, 217, 218, 219, 220, 221] (by decide +kernel) (by decide +kernel)
set_option maxRecDepth 20000 in
theorem gX1_play_X0_ask : GoodIn wsX1_play (wsV RX1 85 RX0 yX0_ask wsX0_ask) := goodIn_app (goodIn_of _ (by decide +kernel)) ggX1_play_X0_ask
theorem dX1_play_0 : decode cX1_play 0 = .ok (.aload_n 0, 1) := by decide +kernel
theorem dX1_play_1 : decode cX1_play 1 = .ok (.iload_n 1, 1) := by decide +kernel
theorem dX1_play_2 : decode cX1_play 2 = .ok (.iconst 1, 1) := by decide +kernel
theorem dX1_play_3 : decode cX1_play 3 = .ok (.iadd, 1) := by decide +kernel
theorem dX1_play_4 : decode cX1_play 4 = .ok (.invokevirtual 61, 3) := by decide +kernel
theorem dX1_play_7 : decode cX1_play 7 = .ok (.istore_n 3, 1) := by decide +kernel
theorem dX1_play_8 : decode cX1_play 8 = .ok (.aload_n 0, 1) := by decide +kernel
theorem dX1_play_9 : decode cX1_play 9 = .ok (.iload_n 1, 1) := by decide +kernel
theorem dX1_play_10 : decode cX1_play 10 = .ok (.iconst 2, 1) := by decide +kernel
theorem dX1_play_11 : decode cX1_play 11 = .ok (.iadd, 1) := by decide +kernel
theorem dX1_play_12 : decode cX1_play 12 = .ok (.invokevirtual 61, 3) := by decide +kernel
theorem dX1_play_15 : decode cX1_play 15 = .ok (.istore 4, 2) := by decide +kernel
theorem dX1_play_17 : decode cX1_play 17 = .ok (.aload_n 0, 1) := by decide +kernel
theorem dX1_play_18 : decode cX1_play 18 = .ok (.iload_n 1, 1) := by decide +kernel
theorem dX1_play_19 : decode cX1_play 19 = .ok (.invokevirtual 58, 3) := by decide +kernel
theorem dX1_play_22 : decode cX1_play 22 = .ok (.lookupswitch 123 #[(97, 94), (102, 58), (107, 86), (110, 116), (113, 64), (119, 79)], 58) := by decide +kernel
theorem dX1_play_80 : decode cX1_play 80 = .ok (.aload_n 2, 1) := by decide +kernel
theorem dX1_play_81 : decode cX1_play 81 = .ok (.iload_n 3, 1) := by decide +kernel
theorem dX1_play_82 : decode cX1_play 82 = .ok (.invokevirtual 64, 3) := by decide +kernel
theorem dX1_play_85 : decode cX1_play 85 = .ok (.ireturn, 1) := by decide +kernel
theorem dX1_play_86 : decode cX1_play 86 = .ok (.aload_n 2, 1) := by decide +kernel
theorem dX1_play_87 : decode cX1_play 87 = .ok (.iload_n 3, 1) := by decide +kernel
theorem dX1_play_88 : decode cX1_play 88 = .ok (.iload 4, 2) := by decide +kernel
theorem dX1_play_90 : decode cX1_play 90 = .ok (.aload_n 0, 1) := by decide +kernel
theorem dX1_play_91 : decode cX1_play 91 = .ok (.iload_n 1, 1) := by decide +kernel
theorem dX1_play_92 : decode cX1_play 92 = .ok (.iconst 3, 1) := by decide +kernel
theorem dX1_play_93 : decode cX1_play 93 = .ok (.iadd, 1) := by decide +kernel
theorem dX1_play_94 : decode cX1_play 94 = .ok (.invokevirtual 61, 3) := by decide +kernel
theorem dX1_play_97 : decode cX1_play 97 = .ok (.invokevirtual 70, 3) := by decide +kernel
theorem dX1_play_100 : decode cX1_play 100 = .ok (.ireturn, 1) := by decide +kernel
theorem dX1_play_101 : decode cX1_play 101 = .ok (.aload_n 0, 1) := by decide +kernel
theorem dX1_play_102 : decode cX1_play 102 = .ok (.iload_n 1, 1) := by decide +kernel
theorem dX1_play_103 : decode cX1_play 103 = .ok (.aload_n 2, 1) := by decide +kernel
theorem dX1_play_104 : decode cX1_play 104 = .ok (.invokevirtual 74, 3) := by decide +kernel
theorem dX1_play_107 : decode cX1_play 107 = .ok (.ireturn, 1) := by decide +kernel
theorem dX1_play_108 : decode cX1_play 108 = .ok (.aload_n 2, 1) := by decide +kernel
theorem dX1_play_109 : decode cX1_play 109 = .ok (.iload_n 3, 1) := by decide +kernel
theorem dX1_play_110 : decode cX1_play 110 = .ok (.iload 4, 2) := by decide +kernel
theorem dX1_play_112 : decode cX1_play 112 = .ok (.invokevirtual 78, 3) := by decide +kernel
theorem dX1_play_115 : decode cX1_play 115 = .ok (.ireturn, 1) := by decide +kernel
theorem dX1_play_116 : decode cX1_play 116 = .ok (.aload_n 2, 1) := by decide +kernel
theorem dX1_play_117 : decode cX1_play 117 = .ok (.iload_n 3, 1) := by decide +kernel
theorem dX1_play_118 : decode cX1_play 118 = .ok (.iload 4, 2) := by decide +kernel
theorem dX1_play_120 : decode cX1_play 120 = .ok (.invokevirtual 82, 3) := by decide +kernel
theorem dX1_play_123 : decode cX1_play 123 = .ok (.ifCond .ne 5, 3) := by decide +kernel
theorem dX1_play_126 : decode cX1_play 126 = .ok (.iconst 0, 1) := by decide +kernel
theorem dX1_play_127 : decode cX1_play 127 = .ok (.ireturn, 1) := by decide +kernel
theorem dX1_play_128 : decode cX1_play 128 = .ok (.aload_n 2, 1) := by decide +kernel
theorem dX1_play_129 : decode cX1_play 129 = .ok (.iload_n 3, 1) := by decide +kernel
theorem dX1_play_130 : decode cX1_play 130 = .ok (.iload 4, 2) := by decide +kernel
theorem dX1_play_132 : decode cX1_play 132 = .ok (.invokevirtual 85, 3) := by decide +kernel
theorem dX1_play_135 : decode cX1_play 135 = .ok (.pop, 1) := by decide +kernel
theorem dX1_play_136 : decode cX1_play 136 = .ok (.iconst 1, 1) := by decide +kernel
theorem dX1_play_137 : decode cX1_play 137 = .ok (.ireturn, 1) := by decide +kernel
theorem dX1_play_138 : decode cX1_play 138 = .ok (.aload_n 2, 1) := by decide +kernel
theorem dX1_play_139 : decode cX1_play 139 = .ok (.iconst 0, 1) := by decide +kernel
theorem dX1_play_140 : decode cX1_play 140 = .ok (.putfield 89, 3) := by decide +kernel
theorem dX1_play_143 : decode cX1_play 143 = .ok (.iconst 1, 1) := by decide +kernel
theorem dX1_play_144 : decode cX1_play 144 = .ok (.ireturn, 1) := by decide +kernel
theorem dX1_play_145 : decode cX1_play 145 = .ok (.iconst 0, 1) := by decide +kernel
theorem dX1_play_146 : decode cX1_play 146 = .ok (.ireturn, 1) := by decide +kernel
set_option maxRecDepth 20000 in
theorem ggX1_playWitness_X1_digit : GoodIn wsX1_playWitness wsX1_digit := goodIn_r _ [5, 6, 7, 8, 4, 9, 10, 11, 110, 111] (by decide +kernel) (by decide +kernel)
set_option maxRecDepth 20000 in
theorem gX1_playWitness_X1_digit : GoodIn wsX1_playWitness (wsV RX1 61 RX1 yX1_digit wsX1_digit) := goodIn_app (goodIn_of _ (by decide +kernel)) ggX1_playWitness_X1_digit
set_option maxRecDepth 20000 in
theorem ggX1_playWitness_X1_sign : GoodIn wsX1_playWitness wsX1_sign := goodIn_r _ [9, 10, 11, 110, 111] (by decide +kernel) (by decide +kernel)
set_option maxRecDepth 20000 in
theorem gX1_playWitness_X1_sign : GoodIn wsX1_playWitness (wsV RX1 58 RX1 yX1_sign wsX1_sign) := goodIn_app (goodIn_of _ (by decide +kernel)) ggX1_playWitness_X1_sign
set_option maxRecDepth 20000 in
theorem ggX1_playWitness_J0_indexOf_0f7a4 : GoodIn wsX1_playWitness wsJ0_indexOf_0f7a4 := goodIn_r _ [16, 17, 18, 19, 15, 20, 21, 22, 23, 24, 25, 26, 27, 28, 29, 30, 31, 32, 33, 34, 35, 36, 37, 38, 39, 40, 41, 42, 43, 44, 45, 46, 47, 48, 49, 50, 51, 52, 53, 54, 55, 56, 57, 58, 59, 60, 61, 62, 63, 64, 65, 66, 67, 68, 69, 70, 71, 72, 73, 74, 75, 76, 77, 78, 79, 80, 81, 82, 83, 84, 85, 86, 87, 88, 89, 90, 91, 92, 93, 94, 95, 96, 97, 98, 99, 100] (by decide +kernel) (by decide +kernel)
set_option maxRecDepth 20000 in
theorem gX1_playWitness_J0_indexOf_0f7a4 : GoodIn wsX1_playWitness (wsV RX1 33 RJ0 yJ0_indexOf_0f7a4 wsJ0_indexOf_0f7a4) := goodIn_app (goodIn_of _ (by decide +kernel)) ggX1_playWitness_J0_indexOf_0f7a4
set_option maxRecDepth 20000 in
theorem ggX1_playWitness_X0_addWitness : GoodIn wsX1_playWitness wsX0_addWitness := goodIn_r _ [105, 106, 107, 108, 109, 112, 113, 114, 115, 116, 117, 118, 119, 120, 121, 122, 123, 124, 125, 126, 127, 128] (by decide +kernel) (by decide +kernel)
set_option maxRecDepth 20000 in
theorem gX1_playWitness_X0_addWitness : GoodIn wsX1_playWitness (wsV RX1 92 RX0 yX0_addWitness wsX0_addWitness) := goodIn_app (goodIn_of _ (by decide +kernel)) ggX1_playWitness_X0_addWitness
theorem dX1_playWitness_0 : decode cX1_playWitness 0 = .ok (.bipush 10, 2) := by decide +kernel
theorem dX1_playWitness_2 : decode cX1_playWitness 2 = .ok (.aload_n 0, 1) := by decide +kernel
theorem dX1_playWitness_3 : decode cX1_playWitness 3 = .ok (.iload_n 1, 1) := by decide +kernel
theorem dX1_playWitness_4 : decode cX1_playWitness 4 = .ok (.iconst 3, 1) := by decide +kernel
theorem dX1_playWitness_5 : decode cX1_playWitness 5 = .ok (.iadd, 1) := by decide +kernel
theorem dX1_playWitness_6 : decode cX1_playWitness 6 = .ok (.invokevirtual 61, 3) := by decide +kernel
theorem dX1_playWitness_9 : decode cX1_playWitness 9 = .ok (.imul, 1) := by decide +kernel
theorem dX1_playWitness_10 : decode cX1_playWitness 10 = .ok (.aload_n 0, 1) := by decide +kernel
theorem dX1_playWitness_11 : decode cX1_playWitness 11 = .ok (.iload_n 1, 1) := by decide +kernel
theorem dX1_playWitness_12 : decode cX1_playWitness 12 = .ok (.iconst 4, 1) := by decide +kernel
theorem dX1_playWitness_13 : decode cX1_playWitness 13 = .ok (.iadd, 1) := by decide +kernel
theorem dX1_playWitness_14 : decode cX1_playWitness 14 = .ok (.invokevirtual 61, 3) := by decide +kernel
theorem dX1_playWitness_17 : decode cX1_playWitness 17 = .ok (.iadd, 1) := by decide +kernel
theorem dX1_playWitness_18 : decode cX1_playWitness 18 = .ok (.istore_n 3, 1) := by decide +kernel
theorem dX1_playWitness_19 : decode cX1_playWitness 19 = .ok (.aload_n 2, 1) := by decide +kernel
theorem dX1_playWitness_20 : decode cX1_playWitness 20 = .ok (.ldc 31, 2) := by decide +kernel
theorem dX1_playWitness_22 : decode cX1_playWitness 22 = .ok (.aload_n 0, 1) := by decide +kernel
theorem dX1_playWitness_23 : decode cX1_playWitness 23 = .ok (.iload_n 1, 1) := by decide +kernel
theorem dX1_playWitness_24 : decode cX1_playWitness 24 = .ok (.iconst 1, 1) := by decide +kernel
theorem dX1_playWitness_25 : decode cX1_playWitness 25 = .ok (.iadd, 1) := by decide +kernel
theorem dX1_playWitness_26 : decode cX1_playWitness 26 = .ok (.invokevirtual 58, 3) := by decide +kernel
theorem dX1_playWitness_29 : decode cX1_playWitness 29 = .ok (.invokevirtual 33, 3) := by decide +kernel
theorem dX1_playWitness_32 : decode cX1_playWitness 32 = .ok (.aload_n 0, 1) := by decide +kernel
theorem dX1_playWitness_33 : decode cX1_playWitness 33 = .ok (.iload_n 1, 1) := by decide +kernel
theorem dX1_playWitness_34 : decode cX1_playWitness 34 = .ok (.iconst 2, 1) := by decide +kernel
theorem dX1_playWitness_35 : decode cX1_playWitness 35 = .ok (.iadd, 1) := by decide +kernel
theorem dX1_playWitness_36 : decode cX1_playWitness 36 = .ok (.invokevirtual 61, 3) := by decide +kernel
theorem dX1_playWitness_39 : decode cX1_playWitness 39 = .ok (.iload_n 3, 1) := by decide +kernel
theorem dX1_playWitness_40 : decode cX1_playWitness 40 = .ok (.invokevirtual 92, 3) := by decide +kernel
theorem dX1_playWitness_43 : decode cX1_playWitness 43 = .ok (.ireturn, 1) := by decide +kernel
set_option maxRecDepth 20000 in
theorem ggX2_init_X0_init : GoodIn wsX2_init wsX0_init := goodIn_r _ [20, 21, 2, 3, 14, 22, 23, 24, 25, 17, 26, 27, 28, 29, 30, 31, 32, 33, 39, 40, 41, 42, 43, 44, 45, 46, 47, 48, 49, 50, 51, 52, 53, 54, 55] (by decide +kernel) (by decide +kernel)
set_option maxRecDepth 20000 in
theorem gX2_init_X0_init_n9 : GoodIn wsX2_init (wsX0_init) := ggX2_init_X0_init
set_option maxRecDepth 20000 in
theorem ggX2_init_X1_init : GoodIn wsX2_init wsX1_init := goodIn_r _ [35, 36, 2, 3, 37, 38, 65, 66] (by decide +kernel) (by decide +kernel)
set_option maxRecDepth 20000 in
theorem gX2_init_X1_init_n24 : GoodIn wsX2_init (wsX1_init) := ggX2_init_X1_init
theorem dX2_init_0 : decode cX2_init 0 = .ok (.aload_n 0, 1) := by decide +kernel
theorem dX2_init_1 : decode cX2_init 1 = .ok (.invokespecial 1, 3) := by decide +kernel
theorem dX2_init_4 : decode cX2_init 4 = .ok (.aload_n 0, 1) := by decide +kernel
theorem dX2_init_5 : decode cX2_init 5 = .ok (.new 7, 3) := by decide +kernel
theorem dX2_init_8 : decode cX2_init 8 = .ok (.dup, 1) := by decide +kernel
theorem dX2_init_9 : decode cX2_init 9 = .ok (.invokespecial 9, 3) := by decide +kernel
theorem dX2_init_12 : decode cX2_init 12 = .ok (.putfield 10, 3) := by decide +kernel
theorem dX2_init_15 : decode cX2_init 15 = .ok (.aload_n 0, 1) := by decide +kernel
theorem dX2_init_16 : decode cX2_init 16 = .ok (.new 7, 3) := by decide +kernel
theorem dX2_init_19 : decode cX2_init 19 = .ok (.dup, 1) := by decide +kernel
theorem dX2_init_20 : decode cX2_init 20 = .ok (.invokespecial 9, 3) := by decide +kernel
theorem dX2_init_23 : decode cX2_init 23 = .ok (.putfield 16, 3) := by decide +kernel
theorem dX2_init_26 : decode cX2_init 26 = .ok (.aload_n 0, 1) := by decide +kernel
theorem dX2_init_27 : decode cX2_init 27 = .ok (.new 7, 3) := by decide +kernel
theorem dX2_init_30 : decode cX2_init 30 = .ok (.dup, 1) := by decide +kernel
theorem dX2_init_31 : decode cX2_init 31 = .ok (.invokespecial 9, 3) := by decide +kernel
theorem dX2_init_34 : decode cX2_init 34 = .ok (.putfield 19, 3) := by decide +kernel
theorem dX2_init_37 : decode cX2_init 37 = .ok (.aload_n 0, 1) := by decide +kernel
theorem dX2_init_38 : decode cX2_init 38 = .ok (.new 22, 3) := by decide +kernel
theorem dX2_init_41 : decode cX2_init 41 = .ok (.dup, 1) := by decide +kernel
theorem dX2_init_42 : decode cX2_init 42 = .ok (.invokespecial 24, 3) := by decide +kernel
theorem dX2_init_45 : decode cX2_init 45 = .ok (.putfield 25, 3) := by decide +kernel
theorem dX2_init_48 : decode cX2_init 48 = .ok (.aload_n 0, 1) := by decide +kernel
theorem dX2_init_49 : decode cX2_init 49 = .ok (.bipush 12, 2) := by decide +kernel
theorem dX2_init_51 : decode cX2_init 51 = .ok (.newarray .int, 2) := by decide +kernel
theorem dX2_init_53 : decode cX2_init 53 = .ok (.putfield 29, 3) := by decide +kernel
theorem dX2_init_56 : decode cX2_init 56 = .ok (.aload_n 0, 1) := by decide +kernel
theorem dX2_init_57 : decode cX2_init 57 = .ok (.bipush 7, 2) := by decide +kernel
theorem dX2_init_59 : decode cX2_init 59 = .ok (.newarray .int, 2) := by decide +kernel
theorem dX2_init_61 : decode cX2_init 61 = .ok (.putfield 33, 3) := by decide +kernel
theorem dX2_init_64 : decode cX2_init 64 = .ok (.aload_n 0, 1) := by decide +kernel
theorem dX2_init_65 : decode cX2_init 65 = .ok (.bipush 32, 2) := by decide +kernel
theorem dX2_init_67 : decode cX2_init 67 = .ok (.newarray .long, 2) := by decide +kernel
theorem dX2_init_69 : decode cX2_init 69 = .ok (.putfield 36, 3) := by decide +kernel
theorem dX2_init_72 : decode cX2_init 72 = .ok (.return_, 1) := by decide +kernel
set_option maxRecDepth 20000 in
theorem ggX2_letter_X2_refused : GoodIn wsX2_letter wsX2_refused := goodIn_r _ [7, 8, 16, 17, 18, 19, 20, 21, 22, 23, 24] (by decide +kernel) (by decide +kernel)
set_option maxRecDepth 20000 in
theorem gX2_letter_X2_refused : GoodIn wsX2_letter (wsV RX2 40 RX2 yX2_refused wsX2_refused) := goodIn_app (goodIn_of _ (by decide +kernel)) ggX2_letter_X2_refused
set_option maxRecDepth 20000 in
theorem ggX2_letter_X1_add : GoodIn wsX2_letter wsX1_add := goodIn_r _ [13, 14, 15, 25, 26] (by decide +kernel) (by decide +kernel)
set_option maxRecDepth 20000 in
theorem gX2_letter_X1_add : GoodIn wsX2_letter (wsV RX2 48 RX1 yX1_add wsX1_add) := goodIn_app (goodIn_of _ (by decide +kernel)) ggX2_letter_X1_add
theorem dX2_letter_0 : decode cX2_letter 0 = .ok (.iload_n 1, 1) := by decide +kernel
theorem dX2_letter_1 : decode cX2_letter 1 = .ok (.ifCond .ge 10, 3) := by decide +kernel
theorem dX2_letter_4 : decode cX2_letter 4 = .ok (.aload_n 0, 1) := by decide +kernel
theorem dX2_letter_5 : decode cX2_letter 5 = .ok (.bipush (-4), 2) := by decide +kernel
theorem dX2_letter_7 : decode cX2_letter 7 = .ok (.invokevirtual 40, 3) := by decide +kernel
theorem dX2_letter_10 : decode cX2_letter 10 = .ok (.ireturn, 1) := by decide +kernel
theorem dX2_letter_11 : decode cX2_letter 11 = .ok (.iload_n 1, 1) := by decide +kernel
theorem dX2_letter_12 : decode cX2_letter 12 = .ok (.sipush 255, 3) := by decide +kernel
theorem dX2_letter_15 : decode cX2_letter 15 = .ok (.if_icmp .gt 15, 3) := by decide +kernel
theorem dX2_letter_18 : decode cX2_letter 18 = .ok (.aload_n 0, 1) := by decide +kernel
theorem dX2_letter_19 : decode cX2_letter 19 = .ok (.getfield 25, 3) := by decide +kernel
theorem dX2_letter_22 : decode cX2_letter 22 = .ok (.getfield 44, 3) := by decide +kernel
theorem dX2_letter_25 : decode cX2_letter 25 = .ok (.bipush 96, 2) := by decide +kernel
theorem dX2_letter_27 : decode cX2_letter 27 = .ok (.if_icmp .lt 10, 3) := by decide +kernel
theorem dX2_letter_30 : decode cX2_letter 30 = .ok (.aload_n 0, 1) := by decide +kernel
theorem dX2_letter_31 : decode cX2_letter 31 = .ok (.bipush (-6), 2) := by decide +kernel
theorem dX2_letter_33 : decode cX2_letter 33 = .ok (.invokevirtual 40, 3) := by decide +kernel
theorem dX2_letter_36 : decode cX2_letter 36 = .ok (.ireturn, 1) := by decide +kernel
theorem dX2_letter_37 : decode cX2_letter 37 = .ok (.aload_n 0, 1) := by decide +kernel
theorem dX2_letter_38 : decode cX2_letter 38 = .ok (.getfield 25, 3) := by decide +kernel
theorem dX2_letter_41 : decode cX2_letter 41 = .ok (.iload_n 1, 1) := by decide +kernel
theorem dX2_letter_42 : decode cX2_letter 42 = .ok (.i2c, 1) := by decide +kernel
theorem dX2_letter_43 : decode cX2_letter 43 = .ok (.invokevirtual 48, 3) := by decide +kernel
theorem dX2_letter_46 : decode cX2_letter 46 = .ok (.aload_n 0, 1) := by decide +kernel
theorem dX2_letter_47 : decode cX2_letter 47 = .ok (.getfield 25, 3) := by decide +kernel
theorem dX2_letter_50 : decode cX2_letter 50 = .ok (.getfield 44, 3) := by decide +kernel
theorem dX2_letter_53 : decode cX2_letter 53 = .ok (.ireturn, 1) := by decide +kernel
set_option maxRecDepth 20000 in
theorem ggX2_court_X2_playScript : GoodIn wsX2_court wsX2_playScript := goodIn_r _ [7, 1, 8, 9, 2, 10, 11, 12, 13, 14, 15, 16, 17, 18, 19, 20, 21, 22, 23, 24, 25, 26, 27, 28, 29, 30, 31, 32, 33, 34, 35, 36, 37, 38, 39, 40, 41, 42, 43, 44, 45, 46, 47, 48, 49, 50, 51, 52, 53, 54, 55, 56, 57, 58, 59, 60, 61, 62, 63, 64, 65, 66, 67, 68, 69, 70, 71, 72, 73, 74, 75, 76, 77, 78, 79, 80, 81, 82, 83, 84, 85, 86, 87, 88, 89, 90, 91, 92, 93, 94, 95, 96, 97, 98, 99, 100, 101, 102, 103, 104, 105, 106, 107, 108, 109, 110, 111, 112, 113, 114, 115, 116, 117, 118, 119, 120, 121, 122, 123, 124, 125, 126, 127, 128, 129, 130, 131, 132, 133, 134, 135, 136, 137, 138, 139, 140, 141, 142, 143, 144, 145, 146, 147, 148, 149, 150, 151, 152, 153, 154, 155, 156, 157, 158, 159, 160, 161, 162, 163, 164, 165, 166, 167, 168, 169, 170, 171, 172, 173, 174, 175, 176, 177, 178, 179, 180, 6, 181, 182, 183, 184, 185, 186, 187, 188, 189, 190, 191, 192, 193, 194, 195, 196, 197, 198, 199, 200, 201, 202, 203, 204, 205, 206, 207, 208, 209, 210, 211, 212, 213, 214, 215, 216, 217, 218, 219, 220, 221, 222, 223, 224, 225, 226, 227, 228, 229, 230, 231, 232, 233, 234, 235, 236, 237, 238, 239, 240, 241, 242, 243, 244, 245, 246, 247, 248, 249, 250, 251, 252, 253, 254, 255, 256, 257, 258, 259, 260, 261, 262, 263, 264, 265, 266, 267, 268, 269, 270, 271, 272, 273, 274, 275, 276, 277, 278, 279, 280, 281, 282, 283, 284, 285, 286, 287] (by decide +kernel) (by decide +kernel)
set_option maxRecDepth 20000 in
theorem gX2_court_X2_playScript : GoodIn wsX2_court (wsV RX2 52 RX2 yX2_playScript wsX2_playScript) := goodIn_app (goodIn_of _ (by decide +kernel)) ggX2_court_X2_playScript
theorem dX2_court_0 : decode cX2_court 0 = .ok (.aload_n 0, 1) := by decide +kernel
theorem dX2_court_1 : decode cX2_court 1 = .ok (.invokevirtual 52, 3) := by decide +kernel
theorem dX2_court_4 : decode cX2_court 4 = .ok (.istore_n 1, 1) := by decide +kernel
theorem dX2_court_5 : decode cX2_court 5 = .ok (.aload_n 0, 1) := by decide +kernel
theorem dX2_court_6 : decode cX2_court 6 = .ok (.getfield 25, 3) := by decide +kernel
theorem dX2_court_9 : decode cX2_court 9 = .ok (.iconst 0, 1) := by decide +kernel
theorem dX2_court_10 : decode cX2_court 10 = .ok (.putfield 44, 3) := by decide +kernel
theorem dX2_court_13 : decode cX2_court 13 = .ok (.iload_n 1, 1) := by decide +kernel
theorem dX2_court_14 : decode cX2_court 14 = .ok (.ireturn, 1) := by decide +kernel
set_option maxRecDepth 20000 in
theorem ggX2_fact_X2_isFact : GoodIn wsX2_fact wsX2_isFact := goodIn_r _ [6] (by decide +kernel) (by decide +kernel)
set_option maxRecDepth 20000 in
theorem gX2_fact_X2_isFact : GoodIn wsX2_fact (va_wsS RX2 56 yX2_isFact wsX2_isFact) := goodIn_app (goodIn_of _ (by decide +kernel)) ggX2_fact_X2_isFact
set_option maxRecDepth 20000 in
theorem ggX2_fact_X2_refused : GoodIn wsX2_fact wsX2_refused := goodIn_r _ [10, 11, 12, 13, 14, 15, 16, 17, 18, 19, 20] (by decide +kernel) (by decide +kernel)
set_option maxRecDepth 20000 in
theorem gX2_fact_X2_refused : GoodIn wsX2_fact (wsV RX2 40 RX2 yX2_refused wsX2_refused) := goodIn_app (goodIn_of _ (by decide +kernel)) ggX2_fact_X2_refused
theorem dX2_fact_0 : decode cX2_fact 0 = .ok (.iload_n 1, 1) := by decide +kernel
theorem dX2_fact_1 : decode cX2_fact 1 = .ok (.invokestatic 56, 3) := by decide +kernel
theorem dX2_fact_4 : decode cX2_fact 4 = .ok (.ifCond .ne 9, 3) := by decide +kernel
theorem dX2_fact_7 : decode cX2_fact 7 = .ok (.aload_n 0, 1) := by decide +kernel
theorem dX2_fact_8 : decode cX2_fact 8 = .ok (.iconst (-1), 1) := by decide +kernel
theorem dX2_fact_9 : decode cX2_fact 9 = .ok (.invokevirtual 40, 3) := by decide +kernel
theorem dX2_fact_12 : decode cX2_fact 12 = .ok (.ireturn, 1) := by decide +kernel
theorem dX2_fact_13 : decode cX2_fact 13 = .ok (.aload_n 0, 1) := by decide +kernel
theorem dX2_fact_14 : decode cX2_fact 14 = .ok (.getfield 10, 3) := by decide +kernel
theorem dX2_fact_17 : decode cX2_fact 17 = .ok (.getfield 60, 3) := by decide +kernel
theorem dX2_fact_20 : decode cX2_fact 20 = .ok (.iload_n 1, 1) := by decide +kernel
theorem dX2_fact_21 : decode cX2_fact 21 = .ok (.ishr, 1) := by decide +kernel
theorem dX2_fact_22 : decode cX2_fact 22 = .ok (.iconst 1, 1) := by decide +kernel
theorem dX2_fact_23 : decode cX2_fact 23 = .ok (.iand, 1) := by decide +kernel
theorem dX2_fact_24 : decode cX2_fact 24 = .ok (.ireturn, 1) := by decide +kernel
set_option maxRecDepth 20000 in
theorem ggX2_question_X0_hasQuestion : GoodIn wsX2_question wsX0_hasQuestion := goodIn_r _ [9, 10, 39, 40, 41, 42, 43, 44, 45, 46, 47, 48, 49, 50, 51, 52, 53, 54, 55] (by decide +kernel) (by decide +kernel)
set_option maxRecDepth 20000 in
theorem gX2_question_X0_hasQuestion : GoodIn wsX2_question (wsV RX2 63 RX0 yX0_hasQuestion wsX0_hasQuestion) := goodIn_app (goodIn_of _ (by decide +kernel)) ggX2_question_X0_hasQuestion
set_option maxRecDepth 20000 in
theorem ggX2_question_X2_refused : GoodIn wsX2_question wsX2_refused := goodIn_r _ [15, 16, 30, 31, 32, 33, 34, 35, 36, 37, 38] (by decide +kernel) (by decide +kernel)
set_option maxRecDepth 20000 in
theorem gX2_question_X2_refused : GoodIn wsX2_question (wsV RX2 40 RX2 yX2_refused wsX2_refused) := goodIn_app (goodIn_of _ (by decide +kernel)) ggX2_question_X2_refused
set_option maxRecDepth 20000 in
theorem ggX2_question_X0_isSo : GoodIn wsX2_question wsX0_isSo := goodIn_r _ [20, 21, 22, 23, 24, 8, 25, 26, 27, 6, 7, 9, 10, 28, 14, 29, 39, 40, 41, 42, 43, 44, 45, 46, 47, 48, 49, 50, 51, 52, 53, 54, 55] (by decide +kernel) (by decide +kernel)
set_option maxRecDepth 20000 in
theorem gX2_question_X0_isSo : GoodIn wsX2_question (wsV RX2 75 RX0 yX0_isSo wsX0_isSo) := goodIn_app (goodIn_of _ (by decide +kernel)) ggX2_question_X0_isSo
theorem dX2_question_0 : decode cX2_question 0 = .ok (.aload_n 0, 1) := by decide +kernel
theorem dX2_question_1 : decode cX2_question 1 = .ok (.getfield 10, 3) := by decide +kernel
theorem dX2_question_4 : decode cX2_question 4 = .ok (.iload_n 1, 1) := by decide +kernel
theorem dX2_question_5 : decode cX2_question 5 = .ok (.invokevirtual 63, 3) := by decide +kernel
theorem dX2_question_8 : decode cX2_question 8 = .ok (.ifCond .ne 9, 3) := by decide +kernel
theorem dX2_question_11 : decode cX2_question 11 = .ok (.aload_n 0, 1) := by decide +kernel
theorem dX2_question_12 : decode cX2_question 12 = .ok (.iconst (-1), 1) := by decide +kernel
theorem dX2_question_13 : decode cX2_question 13 = .ok (.invokevirtual 40, 3) := by decide +kernel
theorem dX2_question_16 : decode cX2_question 16 = .ok (.ireturn, 1) := by decide +kernel
theorem dX2_question_17 : decode cX2_question 17 = .ok (.iload_n 2, 1) := by decide +kernel
theorem dX2_question_18 : decode cX2_question 18 = .ok (.tableswitch 77 0 3 #[30, 40, 50, 60], 30) := by decide +kernel
theorem dX2_question_48 : decode cX2_question 48 = .ok (.aload_n 0, 1) := by decide +kernel
theorem dX2_question_49 : decode cX2_question 49 = .ok (.getfield 10, 3) := by decide +kernel
theorem dX2_question_52 : decode cX2_question 52 = .ok (.getfield 66, 3) := by decide +kernel
theorem dX2_question_55 : decode cX2_question 55 = .ok (.iload_n 1, 1) := by decide +kernel
theorem dX2_question_56 : decode cX2_question 56 = .ok (.iaload, 1) := by decide +kernel
theorem dX2_question_57 : decode cX2_question 57 = .ok (.ireturn, 1) := by decide +kernel
theorem dX2_question_58 : decode cX2_question 58 = .ok (.aload_n 0, 1) := by decide +kernel
theorem dX2_question_59 : decode cX2_question 59 = .ok (.getfield 10, 3) := by decide +kernel
theorem dX2_question_62 : decode cX2_question 62 = .ok (.getfield 69, 3) := by decide +kernel
theorem dX2_question_65 : decode cX2_question 65 = .ok (.iload_n 1, 1) := by decide +kernel
theorem dX2_question_66 : decode cX2_question 66 = .ok (.iaload, 1) := by decide +kernel
theorem dX2_question_67 : decode cX2_question 67 = .ok (.ireturn, 1) := by decide +kernel
theorem dX2_question_68 : decode cX2_question 68 = .ok (.aload_n 0, 1) := by decide +kernel
theorem dX2_question_69 : decode cX2_question 69 = .ok (.getfield 10, 3) := by decide +kernel
theorem dX2_question_72 : decode cX2_question 72 = .ok (.getfield 72, 3) := by decide +kernel
theorem dX2_question_75 : decode cX2_question 75 = .ok (.iload_n 1, 1) := by decide +kernel
theorem dX2_question_76 : decode cX2_question 76 = .ok (.iaload, 1) := by decide +kernel
theorem dX2_question_77 : decode cX2_question 77 = .ok (.ireturn, 1) := by decide +kernel
theorem dX2_question_78 : decode cX2_question 78 = .ok (.aload_n 0, 1) := by decide +kernel
theorem dX2_question_79 : decode cX2_question 79 = .ok (.getfield 10, 3) := by decide +kernel
theorem dX2_question_82 : decode cX2_question 82 = .ok (.iload_n 1, 1) := by decide +kernel
theorem dX2_question_83 : decode cX2_question 83 = .ok (.invokevirtual 75, 3) := by decide +kernel
theorem dX2_question_86 : decode cX2_question 86 = .ok (.ifCond .eq 7, 3) := by decide +kernel
theorem dX2_question_89 : decode cX2_question 89 = .ok (.iconst 1, 1) := by decide +kernel
theorem dX2_question_90 : decode cX2_question 90 = .ok (.goto 4, 3) := by decide +kernel
theorem dX2_question_93 : decode cX2_question 93 = .ok (.iconst 0, 1) := by decide +kernel
theorem dX2_question_94 : decode cX2_question 94 = .ok (.ireturn, 1) := by decide +kernel
theorem dX2_question_95 : decode cX2_question 95 = .ok (.aload_n 0, 1) := by decide +kernel
theorem dX2_question_96 : decode cX2_question 96 = .ok (.bipush (-2), 2) := by decide +kernel
theorem dX2_question_98 : decode cX2_question 98 = .ok (.invokevirtual 40, 3) := by decide +kernel
theorem dX2_question_101 : decode cX2_question 101 = .ok (.ireturn, 1) := by decide +kernel
set_option maxRecDepth 20000 in
theorem ggX2_witness_X0_hasWitness : GoodIn wsX2_witness wsX0_hasWitness := goodIn_r _ [9, 10, 26, 27, 28, 29, 30, 31, 32, 33, 34, 35, 36, 37, 38, 39, 40, 41, 42] (by decide +kernel) (by decide +kernel)
set_option maxRecDepth 20000 in
theorem gX2_witness_X0_hasWitness : GoodIn wsX2_witness (wsV RX2 78 RX0 yX0_hasWitness wsX0_hasWitness) := goodIn_app (goodIn_of _ (by decide +kernel)) ggX2_witness_X0_hasWitness
set_option maxRecDepth 20000 in
theorem ggX2_witness_X2_refused : GoodIn wsX2_witness wsX2_refused := goodIn_r _ [15, 16, 17, 18, 19, 20, 21, 22, 23, 24, 25] (by decide +kernel) (by decide +kernel)
set_option maxRecDepth 20000 in
theorem gX2_witness_X2_refused : GoodIn wsX2_witness (wsV RX2 40 RX2 yX2_refused wsX2_refused) := goodIn_app (goodIn_of _ (by decide +kernel)) ggX2_witness_X2_refused
theorem dX2_witness_0 : decode cX2_witness 0 = .ok (.aload_n 0, 1) := by decide +kernel
theorem dX2_witness_1 : decode cX2_witness 1 = .ok (.getfield 10, 3) := by decide +kernel
theorem dX2_witness_4 : decode cX2_witness 4 = .ok (.iload_n 1, 1) := by decide +kernel
theorem dX2_witness_5 : decode cX2_witness 5 = .ok (.invokevirtual 78, 3) := by decide +kernel
theorem dX2_witness_8 : decode cX2_witness 8 = .ok (.ifCond .ne 9, 3) := by decide +kernel
theorem dX2_witness_11 : decode cX2_witness 11 = .ok (.aload_n 0, 1) := by decide +kernel
theorem dX2_witness_12 : decode cX2_witness 12 = .ok (.iconst (-1), 1) := by decide +kernel
theorem dX2_witness_13 : decode cX2_witness 13 = .ok (.invokevirtual 40, 3) := by decide +kernel
theorem dX2_witness_16 : decode cX2_witness 16 = .ok (.ireturn, 1) := by decide +kernel
theorem dX2_witness_17 : decode cX2_witness 17 = .ok (.iload_n 2, 1) := by decide +kernel
theorem dX2_witness_18 : decode cX2_witness 18 = .ok (.tableswitch 56 0 2 #[26, 36, 46], 26) := by decide +kernel
theorem dX2_witness_44 : decode cX2_witness 44 = .ok (.aload_n 0, 1) := by decide +kernel
theorem dX2_witness_45 : decode cX2_witness 45 = .ok (.getfield 10, 3) := by decide +kernel
theorem dX2_witness_48 : decode cX2_witness 48 = .ok (.getfield 81, 3) := by decide +kernel
theorem dX2_witness_51 : decode cX2_witness 51 = .ok (.iload_n 1, 1) := by decide +kernel
theorem dX2_witness_52 : decode cX2_witness 52 = .ok (.iaload, 1) := by decide +kernel
theorem dX2_witness_53 : decode cX2_witness 53 = .ok (.ireturn, 1) := by decide +kernel
theorem dX2_witness_54 : decode cX2_witness 54 = .ok (.aload_n 0, 1) := by decide +kernel
theorem dX2_witness_55 : decode cX2_witness 55 = .ok (.getfield 10, 3) := by decide +kernel
theorem dX2_witness_58 : decode cX2_witness 58 = .ok (.getfield 84, 3) := by decide +kernel
theorem dX2_witness_61 : decode cX2_witness 61 = .ok (.iload_n 1, 1) := by decide +kernel
theorem dX2_witness_62 : decode cX2_witness 62 = .ok (.iaload, 1) := by decide +kernel
theorem dX2_witness_63 : decode cX2_witness 63 = .ok (.ireturn, 1) := by decide +kernel
theorem dX2_witness_64 : decode cX2_witness 64 = .ok (.aload_n 0, 1) := by decide +kernel
theorem dX2_witness_65 : decode cX2_witness 65 = .ok (.getfield 10, 3) := by decide +kernel
theorem dX2_witness_68 : decode cX2_witness 68 = .ok (.getfield 87, 3) := by decide +kernel
theorem dX2_witness_71 : decode cX2_witness 71 = .ok (.iload_n 1, 1) := by decide +kernel
theorem dX2_witness_72 : decode cX2_witness 72 = .ok (.iaload, 1) := by decide +kernel
theorem dX2_witness_73 : decode cX2_witness 73 = .ok (.ireturn, 1) := by decide +kernel
theorem dX2_witness_74 : decode cX2_witness 74 = .ok (.aload_n 0, 1) := by decide +kernel
theorem dX2_witness_75 : decode cX2_witness 75 = .ok (.bipush (-2), 2) := by decide +kernel
theorem dX2_witness_77 : decode cX2_witness 77 = .ok (.invokevirtual 40, 3) := by decide +kernel
theorem dX2_witness_80 : decode cX2_witness 80 = .ok (.ireturn, 1) := by decide +kernel
set_option maxRecDepth 20000 in
theorem ggX2_asks_X0_hasWitness : GoodIn wsX2_asks wsX0_hasWitness := goodIn_r _ [7, 8, 86, 87, 88, 89, 90, 91, 92, 93, 94, 95, 96, 97, 98, 99, 100, 101, 102] (by decide +kernel) (by decide +kernel)
set_option maxRecDepth 20000 in
theorem gX2_asks_X0_hasWitness : GoodIn wsX2_asks (wsV RX2 78 RX0 yX0_hasWitness wsX0_hasWitness) := goodIn_app (goodIn_of _ (by decide +kernel)) ggX2_asks_X0_hasWitness
set_option maxRecDepth 20000 in
theorem ggX2_asks_X0_hasQuestion : GoodIn wsX2_asks wsX0_hasQuestion := goodIn_r _ [12, 13, 86, 87, 88, 89, 90, 91, 92, 93, 94, 95, 96, 97, 98, 99, 100, 101, 102] (by decide +kernel) (by decide +kernel)
set_option maxRecDepth 20000 in
theorem gX2_asks_X0_hasQuestion : GoodIn wsX2_asks (wsV RX2 63 RX0 yX0_hasQuestion wsX0_hasQuestion) := goodIn_app (goodIn_of _ (by decide +kernel)) ggX2_asks_X0_hasQuestion
set_option maxRecDepth 20000 in
theorem ggX2_asks_X2_refused : GoodIn wsX2_asks wsX2_refused := goodIn_r _ [18, 19, 77, 78, 79, 80, 81, 82, 83, 84, 85] (by decide +kernel) (by decide +kernel)
set_option maxRecDepth 20000 in
theorem gX2_asks_X2_refused : GoodIn wsX2_asks (wsV RX2 40 RX2 yX2_refused wsX2_refused) := goodIn_app (goodIn_of _ (by decide +kernel)) ggX2_asks_X2_refused
set_option maxRecDepth 20000 in
theorem ggX2_asks_X0_ask : GoodIn wsX2_asks wsX0_ask := goodIn_r _ [23, 24, 25, 26, 27, 28, 29, 30, 31, 32, 33, 6, 34, 35, 36, 37, 38, 39, 40, 41, 4, 5, 7, 8, 42, 10, 11, 12, 13, 43, 44, 45, 46, 47, 48, 49, 50, 51, 52, 53, 54, 55, 56, 57, 58, 59, 60, 61, 62, 63, 17, 64, 65, 66, 67, 68, 69, 70, 71, 72, 73, 74, 75, 76, 86, 87, 88, 89, 90, 91, 92, 93, 94, 95, 96, 97, 98, 99, 100, 101, 102] (by decide +kernel) (by decide +kernel)
set_option maxRecDepth 20000 in
theorem gX2_asks_X0_ask : GoodIn wsX2_asks (wsV RX2 93 RX0 yX0_ask wsX0_ask) := goodIn_app (goodIn_of _ (by decide +kernel)) ggX2_asks_X0_ask
theorem dX2_asks_0 : decode cX2_asks 0 = .ok (.aload_n 0, 1) := by decide +kernel
theorem dX2_asks_1 : decode cX2_asks 1 = .ok (.getfield 10, 3) := by decide +kernel
theorem dX2_asks_4 : decode cX2_asks 4 = .ok (.iload_n 1, 1) := by decide +kernel
theorem dX2_asks_5 : decode cX2_asks 5 = .ok (.invokevirtual 78, 3) := by decide +kernel
theorem dX2_asks_8 : decode cX2_asks 8 = .ok (.ifCond .eq 14, 3) := by decide +kernel
theorem dX2_asks_11 : decode cX2_asks 11 = .ok (.aload_n 0, 1) := by decide +kernel
theorem dX2_asks_12 : decode cX2_asks 12 = .ok (.getfield 10, 3) := by decide +kernel
theorem dX2_asks_15 : decode cX2_asks 15 = .ok (.iload_n 2, 1) := by decide +kernel
theorem dX2_asks_16 : decode cX2_asks 16 = .ok (.invokevirtual 63, 3) := by decide +kernel
theorem dX2_asks_19 : decode cX2_asks 19 = .ok (.ifCond .ne 9, 3) := by decide +kernel
theorem dX2_asks_22 : decode cX2_asks 22 = .ok (.aload_n 0, 1) := by decide +kernel
theorem dX2_asks_23 : decode cX2_asks 23 = .ok (.iconst (-1), 1) := by decide +kernel
theorem dX2_asks_24 : decode cX2_asks 24 = .ok (.invokevirtual 40, 3) := by decide +kernel
theorem dX2_asks_27 : decode cX2_asks 27 = .ok (.ireturn, 1) := by decide +kernel
theorem dX2_asks_28 : decode cX2_asks 28 = .ok (.aload_n 0, 1) := by decide +kernel
theorem dX2_asks_29 : decode cX2_asks 29 = .ok (.getfield 10, 3) := by decide +kernel
theorem dX2_asks_32 : decode cX2_asks 32 = .ok (.getfield 90, 3) := by decide +kernel
theorem dX2_asks_35 : decode cX2_asks 35 = .ok (.sipush 999, 3) := by decide +kernel
theorem dX2_asks_38 : decode cX2_asks 38 = .ok (.if_icmp .lt 10, 3) := by decide +kernel
theorem dX2_asks_41 : decode cX2_asks 41 = .ok (.aload_n 0, 1) := by decide +kernel
theorem dX2_asks_42 : decode cX2_asks 42 = .ok (.bipush (-6), 2) := by decide +kernel
theorem dX2_asks_44 : decode cX2_asks 44 = .ok (.invokevirtual 40, 3) := by decide +kernel
theorem dX2_asks_47 : decode cX2_asks 47 = .ok (.ireturn, 1) := by decide +kernel
theorem dX2_asks_48 : decode cX2_asks 48 = .ok (.aload_n 0, 1) := by decide +kernel
theorem dX2_asks_49 : decode cX2_asks 49 = .ok (.getfield 10, 3) := by decide +kernel
theorem dX2_asks_52 : decode cX2_asks 52 = .ok (.iload_n 1, 1) := by decide +kernel
theorem dX2_asks_53 : decode cX2_asks 53 = .ok (.iload_n 2, 1) := by decide +kernel
theorem dX2_asks_54 : decode cX2_asks 54 = .ok (.invokevirtual 93, 3) := by decide +kernel
theorem dX2_asks_57 : decode cX2_asks 57 = .ok (.ireturn, 1) := by decide +kernel
set_option maxRecDepth 20000 in
theorem ggX2_heard_X0_hasPlace : GoodIn wsX2_heard wsX0_hasPlace := goodIn_r _ [10, 11, 27, 28, 29, 30, 31, 32, 33, 34, 35, 36, 37, 38, 39, 40, 41, 42, 43] (by decide +kernel) (by decide +kernel)
set_option maxRecDepth 20000 in
theorem gX2_heard_X0_hasPlace : GoodIn wsX2_heard (wsV RX2 97 RX0 yX0_hasPlace wsX0_hasPlace) := goodIn_app (goodIn_of _ (by decide +kernel)) ggX2_heard_X0_hasPlace
set_option maxRecDepth 20000 in
theorem ggX2_heard_X2_refused : GoodIn wsX2_heard wsX2_refused := goodIn_r _ [16, 17, 18, 19, 20, 21, 22, 23, 24, 25, 26] (by decide +kernel) (by decide +kernel)
set_option maxRecDepth 20000 in
theorem gX2_heard_X2_refused : GoodIn wsX2_heard (wsV RX2 40 RX2 yX2_refused wsX2_refused) := goodIn_app (goodIn_of _ (by decide +kernel)) ggX2_heard_X2_refused
theorem dX2_heard_0 : decode cX2_heard 0 = .ok (.aload_n 0, 1) := by decide +kernel
theorem dX2_heard_1 : decode cX2_heard 1 = .ok (.getfield 10, 3) := by decide +kernel
theorem dX2_heard_4 : decode cX2_heard 4 = .ok (.iload_n 1, 1) := by decide +kernel
theorem dX2_heard_5 : decode cX2_heard 5 = .ok (.invokevirtual 97, 3) := by decide +kernel
theorem dX2_heard_8 : decode cX2_heard 8 = .ok (.ifCond .ne 9, 3) := by decide +kernel
theorem dX2_heard_11 : decode cX2_heard 11 = .ok (.aload_n 0, 1) := by decide +kernel
theorem dX2_heard_12 : decode cX2_heard 12 = .ok (.iconst (-1), 1) := by decide +kernel
theorem dX2_heard_13 : decode cX2_heard 13 = .ok (.invokevirtual 40, 3) := by decide +kernel
theorem dX2_heard_16 : decode cX2_heard 16 = .ok (.ireturn, 1) := by decide +kernel
theorem dX2_heard_17 : decode cX2_heard 17 = .ok (.iload_n 2, 1) := by decide +kernel
theorem dX2_heard_18 : decode cX2_heard 18 = .ok (.tableswitch 70 0 3 #[30, 40, 50, 60], 30) := by decide +kernel
theorem dX2_heard_48 : decode cX2_heard 48 = .ok (.aload_n 0, 1) := by decide +kernel
theorem dX2_heard_49 : decode cX2_heard 49 = .ok (.getfield 10, 3) := by decide +kernel
theorem dX2_heard_52 : decode cX2_heard 52 = .ok (.getfield 100, 3) := by decide +kernel
theorem dX2_heard_55 : decode cX2_heard 55 = .ok (.iload_n 1, 1) := by decide +kernel
theorem dX2_heard_56 : decode cX2_heard 56 = .ok (.iaload, 1) := by decide +kernel
theorem dX2_heard_57 : decode cX2_heard 57 = .ok (.ireturn, 1) := by decide +kernel
theorem dX2_heard_58 : decode cX2_heard 58 = .ok (.aload_n 0, 1) := by decide +kernel
theorem dX2_heard_59 : decode cX2_heard 59 = .ok (.getfield 10, 3) := by decide +kernel
theorem dX2_heard_62 : decode cX2_heard 62 = .ok (.getfield 103, 3) := by decide +kernel
theorem dX2_heard_65 : decode cX2_heard 65 = .ok (.iload_n 1, 1) := by decide +kernel
theorem dX2_heard_66 : decode cX2_heard 66 = .ok (.iaload, 1) := by decide +kernel
theorem dX2_heard_67 : decode cX2_heard 67 = .ok (.ireturn, 1) := by decide +kernel
theorem dX2_heard_68 : decode cX2_heard 68 = .ok (.aload_n 0, 1) := by decide +kernel
theorem dX2_heard_69 : decode cX2_heard 69 = .ok (.getfield 10, 3) := by decide +kernel
theorem dX2_heard_72 : decode cX2_heard 72 = .ok (.getfield 106, 3) := by decide +kernel
theorem dX2_heard_75 : decode cX2_heard 75 = .ok (.iload_n 1, 1) := by decide +kernel
theorem dX2_heard_76 : decode cX2_heard 76 = .ok (.iaload, 1) := by decide +kernel
theorem dX2_heard_77 : decode cX2_heard 77 = .ok (.ireturn, 1) := by decide +kernel
theorem dX2_heard_78 : decode cX2_heard 78 = .ok (.aload_n 0, 1) := by decide +kernel
theorem dX2_heard_79 : decode cX2_heard 79 = .ok (.getfield 10, 3) := by decide +kernel
theorem dX2_heard_82 : decode cX2_heard 82 = .ok (.getfield 109, 3) := by decide +kernel
theorem dX2_heard_85 : decode cX2_heard 85 = .ok (.iload_n 1, 1) := by decide +kernel
theorem dX2_heard_86 : decode cX2_heard 86 = .ok (.iaload, 1) := by decide +kernel
theorem dX2_heard_87 : decode cX2_heard 87 = .ok (.ireturn, 1) := by decide +kernel
theorem dX2_heard_88 : decode cX2_heard 88 = .ok (.aload_n 0, 1) := by decide +kernel
theorem dX2_heard_89 : decode cX2_heard 89 = .ok (.bipush (-2), 2) := by decide +kernel
theorem dX2_heard_91 : decode cX2_heard 91 = .ok (.invokevirtual 40, 3) := by decide +kernel
theorem dX2_heard_94 : decode cX2_heard 94 = .ok (.ireturn, 1) := by decide +kernel
set_option maxRecDepth 20000 in
theorem ggX2_sets_X2_refused : GoodIn wsX2_sets wsX2_refused := goodIn_r _ [7, 8, 9, 10, 11, 12, 13, 14, 15, 16, 17] (by decide +kernel) (by decide +kernel)
set_option maxRecDepth 20000 in
theorem gX2_sets_X2_refused : GoodIn wsX2_sets (wsV RX2 40 RX2 yX2_refused wsX2_refused) := goodIn_app (goodIn_of _ (by decide +kernel)) ggX2_sets_X2_refused
theorem dX2_sets_0 : decode cX2_sets 0 = .ok (.iload_n 1, 1) := by decide +kernel
theorem dX2_sets_1 : decode cX2_sets 1 = .ok (.ifCond .ge 10, 3) := by decide +kernel
theorem dX2_sets_4 : decode cX2_sets 4 = .ok (.aload_n 0, 1) := by decide +kernel
theorem dX2_sets_5 : decode cX2_sets 5 = .ok (.bipush (-4), 2) := by decide +kernel
theorem dX2_sets_7 : decode cX2_sets 7 = .ok (.invokevirtual 40, 3) := by decide +kernel
theorem dX2_sets_10 : decode cX2_sets 10 = .ok (.ireturn, 1) := by decide +kernel
theorem dX2_sets_11 : decode cX2_sets 11 = .ok (.iload_n 1, 1) := by decide +kernel
theorem dX2_sets_12 : decode cX2_sets 12 = .ok (.bipush 63, 2) := by decide +kernel
theorem dX2_sets_14 : decode cX2_sets 14 = .ok (.if_icmp .le 10, 3) := by decide +kernel
theorem dX2_sets_17 : decode cX2_sets 17 = .ok (.aload_n 0, 1) := by decide +kernel
theorem dX2_sets_18 : decode cX2_sets 18 = .ok (.bipush (-6), 2) := by decide +kernel
theorem dX2_sets_20 : decode cX2_sets 20 = .ok (.invokevirtual 40, 3) := by decide +kernel
theorem dX2_sets_23 : decode cX2_sets 23 = .ok (.ireturn, 1) := by decide +kernel
theorem dX2_sets_24 : decode cX2_sets 24 = .ok (.aload_n 0, 1) := by decide +kernel
theorem dX2_sets_25 : decode cX2_sets 25 = .ok (.getfield 10, 3) := by decide +kernel
theorem dX2_sets_28 : decode cX2_sets 28 = .ok (.getfield 60, 3) := by decide +kernel
theorem dX2_sets_31 : decode cX2_sets 31 = .ok (.istore_n 2, 1) := by decide +kernel
theorem dX2_sets_32 : decode cX2_sets 32 = .ok (.aload_n 0, 1) := by decide +kernel
theorem dX2_sets_33 : decode cX2_sets 33 = .ok (.getfield 10, 3) := by decide +kernel
theorem dX2_sets_36 : decode cX2_sets 36 = .ok (.iload_n 1, 1) := by decide +kernel
theorem dX2_sets_37 : decode cX2_sets 37 = .ok (.putfield 60, 3) := by decide +kernel
theorem dX2_sets_40 : decode cX2_sets 40 = .ok (.iload_n 2, 1) := by decide +kernel
theorem dX2_sets_41 : decode cX2_sets 41 = .ok (.ireturn, 1) := by decide +kernel
set_option maxRecDepth 20000 in
theorem ggX2_knows_X0_hasWitness : GoodIn wsX2_knows wsX0_hasWitness := goodIn_r _ [7, 8, 24, 25, 26, 27, 28, 29, 30, 31, 32, 33, 34, 35, 36, 37, 38, 39, 40] (by decide +kernel) (by decide +kernel)
set_option maxRecDepth 20000 in
theorem gX2_knows_X0_hasWitness : GoodIn wsX2_knows (wsV RX2 78 RX0 yX0_hasWitness wsX0_hasWitness) := goodIn_app (goodIn_of _ (by decide +kernel)) ggX2_knows_X0_hasWitness
set_option maxRecDepth 20000 in
theorem ggX2_knows_X2_refused : GoodIn wsX2_knows wsX2_refused := goodIn_r _ [13, 14, 15, 16, 17, 18, 19, 20, 21, 22, 23] (by decide +kernel) (by decide +kernel)
set_option maxRecDepth 20000 in
theorem gX2_knows_X2_refused : GoodIn wsX2_knows (wsV RX2 40 RX2 yX2_refused wsX2_refused) := goodIn_app (goodIn_of _ (by decide +kernel)) ggX2_knows_X2_refused
theorem dX2_knows_0 : decode cX2_knows 0 = .ok (.aload_n 0, 1) := by decide +kernel
theorem dX2_knows_1 : decode cX2_knows 1 = .ok (.getfield 10, 3) := by decide +kernel
theorem dX2_knows_4 : decode cX2_knows 4 = .ok (.iload_n 1, 1) := by decide +kernel
theorem dX2_knows_5 : decode cX2_knows 5 = .ok (.invokevirtual 78, 3) := by decide +kernel
theorem dX2_knows_8 : decode cX2_knows 8 = .ok (.ifCond .ne 9, 3) := by decide +kernel
theorem dX2_knows_11 : decode cX2_knows 11 = .ok (.aload_n 0, 1) := by decide +kernel
theorem dX2_knows_12 : decode cX2_knows 12 = .ok (.iconst (-1), 1) := by decide +kernel
theorem dX2_knows_13 : decode cX2_knows 13 = .ok (.invokevirtual 40, 3) := by decide +kernel
theorem dX2_knows_16 : decode cX2_knows 16 = .ok (.ireturn, 1) := by decide +kernel
theorem dX2_knows_17 : decode cX2_knows 17 = .ok (.iload_n 2, 1) := by decide +kernel
theorem dX2_knows_18 : decode cX2_knows 18 = .ok (.ifCond .ge 10, 3) := by decide +kernel
theorem dX2_knows_21 : decode cX2_knows 21 = .ok (.aload_n 0, 1) := by decide +kernel
theorem dX2_knows_22 : decode cX2_knows 22 = .ok (.bipush (-4), 2) := by decide +kernel
theorem dX2_knows_24 : decode cX2_knows 24 = .ok (.invokevirtual 40, 3) := by decide +kernel
theorem dX2_knows_27 : decode cX2_knows 27 = .ok (.ireturn, 1) := by decide +kernel
theorem dX2_knows_28 : decode cX2_knows 28 = .ok (.iload_n 2, 1) := by decide +kernel
theorem dX2_knows_29 : decode cX2_knows 29 = .ok (.bipush 63, 2) := by decide +kernel
theorem dX2_knows_31 : decode cX2_knows 31 = .ok (.if_icmp .le 10, 3) := by decide +kernel
theorem dX2_knows_34 : decode cX2_knows 34 = .ok (.aload_n 0, 1) := by decide +kernel
theorem dX2_knows_35 : decode cX2_knows 35 = .ok (.bipush (-6), 2) := by decide +kernel
theorem dX2_knows_37 : decode cX2_knows 37 = .ok (.invokevirtual 40, 3) := by decide +kernel
theorem dX2_knows_40 : decode cX2_knows 40 = .ok (.ireturn, 1) := by decide +kernel
theorem dX2_knows_41 : decode cX2_knows 41 = .ok (.aload_n 0, 1) := by decide +kernel
theorem dX2_knows_42 : decode cX2_knows 42 = .ok (.getfield 10, 3) := by decide +kernel
theorem dX2_knows_45 : decode cX2_knows 45 = .ok (.getfield 87, 3) := by decide +kernel
theorem dX2_knows_48 : decode cX2_knows 48 = .ok (.iload_n 1, 1) := by decide +kernel
theorem dX2_knows_49 : decode cX2_knows 49 = .ok (.iaload, 1) := by decide +kernel
theorem dX2_knows_50 : decode cX2_knows 50 = .ok (.istore_n 3, 1) := by decide +kernel
theorem dX2_knows_51 : decode cX2_knows 51 = .ok (.aload_n 0, 1) := by decide +kernel
theorem dX2_knows_52 : decode cX2_knows 52 = .ok (.getfield 10, 3) := by decide +kernel
theorem dX2_knows_55 : decode cX2_knows 55 = .ok (.getfield 87, 3) := by decide +kernel
theorem dX2_knows_58 : decode cX2_knows 58 = .ok (.iload_n 1, 1) := by decide +kernel
theorem dX2_knows_59 : decode cX2_knows 59 = .ok (.iload_n 2, 1) := by decide +kernel
theorem dX2_knows_60 : decode cX2_knows 60 = .ok (.iastore, 1) := by decide +kernel
theorem dX2_knows_61 : decode cX2_knows 61 = .ok (.iload_n 3, 1) := by decide +kernel
theorem dX2_knows_62 : decode cX2_knows 62 = .ok (.ireturn, 1) := by decide +kernel
set_option maxRecDepth 20000 in
theorem ggX2_turn_X0_hasWitness : GoodIn wsX2_turn wsX0_hasWitness := goodIn_r _ [8, 9, 25, 26, 27, 28, 29, 30, 31, 32, 33, 34, 35, 36, 37, 38, 39, 40, 41] (by decide +kernel) (by decide +kernel)
set_option maxRecDepth 20000 in
theorem gX2_turn_X0_hasWitness : GoodIn wsX2_turn (wsV RX2 78 RX0 yX0_hasWitness wsX0_hasWitness) := goodIn_app (goodIn_of _ (by decide +kernel)) ggX2_turn_X0_hasWitness
set_option maxRecDepth 20000 in
theorem ggX2_turn_X2_refused : GoodIn wsX2_turn wsX2_refused := goodIn_r _ [14, 15, 16, 17, 18, 19, 20, 21, 22, 23, 24] (by decide +kernel) (by decide +kernel)
set_option maxRecDepth 20000 in
theorem gX2_turn_X2_refused : GoodIn wsX2_turn (wsV RX2 40 RX2 yX2_refused wsX2_refused) := goodIn_app (goodIn_of _ (by decide +kernel)) ggX2_turn_X2_refused
theorem dX2_turn_0 : decode cX2_turn 0 = .ok (.aload_n 0, 1) := by decide +kernel
theorem dX2_turn_1 : decode cX2_turn 1 = .ok (.getfield 10, 3) := by decide +kernel
theorem dX2_turn_4 : decode cX2_turn 4 = .ok (.iload_n 1, 1) := by decide +kernel
theorem dX2_turn_5 : decode cX2_turn 5 = .ok (.invokevirtual 78, 3) := by decide +kernel
theorem dX2_turn_8 : decode cX2_turn 8 = .ok (.ifCond .ne 9, 3) := by decide +kernel
theorem dX2_turn_11 : decode cX2_turn 11 = .ok (.aload_n 0, 1) := by decide +kernel
theorem dX2_turn_12 : decode cX2_turn 12 = .ok (.iconst (-1), 1) := by decide +kernel
theorem dX2_turn_13 : decode cX2_turn 13 = .ok (.invokevirtual 40, 3) := by decide +kernel
theorem dX2_turn_16 : decode cX2_turn 16 = .ok (.ireturn, 1) := by decide +kernel
theorem dX2_turn_17 : decode cX2_turn 17 = .ok (.iload_n 2, 1) := by decide +kernel
theorem dX2_turn_18 : decode cX2_turn 18 = .ok (.ifCond .lt 9, 3) := by decide +kernel
theorem dX2_turn_21 : decode cX2_turn 21 = .ok (.iload_n 2, 1) := by decide +kernel
theorem dX2_turn_22 : decode cX2_turn 22 = .ok (.bipush 6, 2) := by decide +kernel
theorem dX2_turn_24 : decode cX2_turn 24 = .ok (.if_icmp .lt 10, 3) := by decide +kernel
theorem dX2_turn_27 : decode cX2_turn 27 = .ok (.aload_n 0, 1) := by decide +kernel
theorem dX2_turn_28 : decode cX2_turn 28 = .ok (.bipush (-2), 2) := by decide +kernel
theorem dX2_turn_30 : decode cX2_turn 30 = .ok (.invokevirtual 40, 3) := by decide +kernel
theorem dX2_turn_33 : decode cX2_turn 33 = .ok (.ireturn, 1) := by decide +kernel
theorem dX2_turn_34 : decode cX2_turn 34 = .ok (.iload_n 3, 1) := by decide +kernel
theorem dX2_turn_35 : decode cX2_turn 35 = .ok (.ifCond .ge 10, 3) := by decide +kernel
theorem dX2_turn_38 : decode cX2_turn 38 = .ok (.aload_n 0, 1) := by decide +kernel
theorem dX2_turn_39 : decode cX2_turn 39 = .ok (.bipush (-4), 2) := by decide +kernel
theorem dX2_turn_41 : decode cX2_turn 41 = .ok (.invokevirtual 40, 3) := by decide +kernel
theorem dX2_turn_44 : decode cX2_turn 44 = .ok (.ireturn, 1) := by decide +kernel
theorem dX2_turn_45 : decode cX2_turn 45 = .ok (.iload_n 3, 1) := by decide +kernel
theorem dX2_turn_46 : decode cX2_turn 46 = .ok (.bipush 9, 2) := by decide +kernel
theorem dX2_turn_48 : decode cX2_turn 48 = .ok (.if_icmp .le 10, 3) := by decide +kernel
theorem dX2_turn_51 : decode cX2_turn 51 = .ok (.aload_n 0, 1) := by decide +kernel
theorem dX2_turn_52 : decode cX2_turn 52 = .ok (.bipush (-6), 2) := by decide +kernel
theorem dX2_turn_54 : decode cX2_turn 54 = .ok (.invokevirtual 40, 3) := by decide +kernel
theorem dX2_turn_57 : decode cX2_turn 57 = .ok (.ireturn, 1) := by decide +kernel
theorem dX2_turn_58 : decode cX2_turn 58 = .ok (.bipush 10, 2) := by decide +kernel
theorem dX2_turn_60 : decode cX2_turn 60 = .ok (.aload_n 0, 1) := by decide +kernel
theorem dX2_turn_61 : decode cX2_turn 61 = .ok (.getfield 10, 3) := by decide +kernel
theorem dX2_turn_64 : decode cX2_turn 64 = .ok (.getfield 81, 3) := by decide +kernel
theorem dX2_turn_67 : decode cX2_turn 67 = .ok (.iload_n 1, 1) := by decide +kernel
theorem dX2_turn_68 : decode cX2_turn 68 = .ok (.iaload, 1) := by decide +kernel
theorem dX2_turn_69 : decode cX2_turn 69 = .ok (.imul, 1) := by decide +kernel
theorem dX2_turn_70 : decode cX2_turn 70 = .ok (.aload_n 0, 1) := by decide +kernel
theorem dX2_turn_71 : decode cX2_turn 71 = .ok (.getfield 10, 3) := by decide +kernel
theorem dX2_turn_74 : decode cX2_turn 74 = .ok (.getfield 84, 3) := by decide +kernel
theorem dX2_turn_77 : decode cX2_turn 77 = .ok (.iload_n 1, 1) := by decide +kernel
theorem dX2_turn_78 : decode cX2_turn 78 = .ok (.iaload, 1) := by decide +kernel
theorem dX2_turn_79 : decode cX2_turn 79 = .ok (.iadd, 1) := by decide +kernel
theorem dX2_turn_80 : decode cX2_turn 80 = .ok (.istore 4, 2) := by decide +kernel
theorem dX2_turn_82 : decode cX2_turn 82 = .ok (.aload_n 0, 1) := by decide +kernel
theorem dX2_turn_83 : decode cX2_turn 83 = .ok (.getfield 10, 3) := by decide +kernel
theorem dX2_turn_86 : decode cX2_turn 86 = .ok (.getfield 81, 3) := by decide +kernel
theorem dX2_turn_89 : decode cX2_turn 89 = .ok (.iload_n 1, 1) := by decide +kernel
theorem dX2_turn_90 : decode cX2_turn 90 = .ok (.iload_n 2, 1) := by decide +kernel
theorem dX2_turn_91 : decode cX2_turn 91 = .ok (.iastore, 1) := by decide +kernel
theorem dX2_turn_92 : decode cX2_turn 92 = .ok (.aload_n 0, 1) := by decide +kernel
theorem dX2_turn_93 : decode cX2_turn 93 = .ok (.getfield 10, 3) := by decide +kernel
theorem dX2_turn_96 : decode cX2_turn 96 = .ok (.getfield 84, 3) := by decide +kernel
theorem dX2_turn_99 : decode cX2_turn 99 = .ok (.iload_n 1, 1) := by decide +kernel
theorem dX2_turn_100 : decode cX2_turn 100 = .ok (.iload_n 3, 1) := by decide +kernel
theorem dX2_turn_101 : decode cX2_turn 101 = .ok (.iastore, 1) := by decide +kernel
theorem dX2_turn_102 : decode cX2_turn 102 = .ok (.iload 4, 2) := by decide +kernel
theorem dX2_turn_104 : decode cX2_turn 104 = .ok (.ireturn, 1) := by decide +kernel
theorem dX2_empties_0 : decode cX2_empties 0 = .ok (.aload_n 0, 1) := by decide +kernel
theorem dX2_empties_1 : decode cX2_empties 1 = .ok (.getfield 10, 3) := by decide +kernel
theorem dX2_empties_4 : decode cX2_empties 4 = .ok (.getfield 112, 3) := by decide +kernel
theorem dX2_empties_7 : decode cX2_empties 7 = .ok (.istore_n 1, 1) := by decide +kernel
theorem dX2_empties_8 : decode cX2_empties 8 = .ok (.aload_n 0, 1) := by decide +kernel
theorem dX2_empties_9 : decode cX2_empties 9 = .ok (.getfield 10, 3) := by decide +kernel
theorem dX2_empties_12 : decode cX2_empties 12 = .ok (.iconst 0, 1) := by decide +kernel
theorem dX2_empties_13 : decode cX2_empties 13 = .ok (.putfield 112, 3) := by decide +kernel
theorem dX2_empties_16 : decode cX2_empties 16 = .ok (.iload_n 1, 1) := by decide +kernel
theorem dX2_empties_17 : decode cX2_empties 17 = .ok (.ireturn, 1) := by decide +kernel
set_option maxRecDepth 20000 in
theorem ggX2_answer_X0_hasWitness : GoodIn wsX2_answer wsX0_hasWitness := goodIn_r _ [8, 9, 68, 69, 70, 71, 72, 73, 74, 75, 76, 77, 78, 79, 80, 81, 82, 83, 84] (by decide +kernel) (by decide +kernel)
set_option maxRecDepth 20000 in
theorem gX2_answer_X0_hasWitness : GoodIn wsX2_answer (wsV RX2 78 RX0 yX0_hasWitness wsX0_hasWitness) := goodIn_app (goodIn_of _ (by decide +kernel)) ggX2_answer_X0_hasWitness
set_option maxRecDepth 20000 in
theorem ggX2_answer_X0_hasQuestion : GoodIn wsX2_answer wsX0_hasQuestion := goodIn_r _ [13, 14, 68, 69, 70, 71, 72, 73, 74, 75, 76, 77, 78, 79, 80, 81, 82, 83, 84] (by decide +kernel) (by decide +kernel)
set_option maxRecDepth 20000 in
theorem gX2_answer_X0_hasQuestion : GoodIn wsX2_answer (wsV RX2 63 RX0 yX0_hasQuestion wsX0_hasQuestion) := goodIn_app (goodIn_of _ (by decide +kernel)) ggX2_answer_X0_hasQuestion
set_option maxRecDepth 20000 in
theorem ggX2_answer_X2_refused : GoodIn wsX2_answer wsX2_refused := goodIn_r _ [19, 20, 59, 60, 61, 62, 63, 64, 65, 66, 67] (by decide +kernel) (by decide +kernel)
set_option maxRecDepth 20000 in
theorem gX2_answer_X2_refused : GoodIn wsX2_answer (wsV RX2 40 RX2 yX2_refused wsX2_refused) := goodIn_app (goodIn_of _ (by decide +kernel)) ggX2_answer_X2_refused
set_option maxRecDepth 20000 in
theorem ggX2_answer_X0_reply : GoodIn wsX2_answer wsX0_reply := goodIn_r _ [24, 25, 26, 27, 7, 28, 29, 30, 31, 5, 6, 8, 9, 32, 11, 12, 13, 14, 33, 34, 35, 36, 37, 38, 39, 40, 41, 42, 43, 44, 45, 46, 47, 48, 49, 50, 51, 52, 53, 18, 54, 55, 56, 57, 58, 68, 69, 70, 71, 72, 73, 74, 75, 76, 77, 78, 79, 80, 81, 82, 83, 84] (by decide +kernel) (by decide +kernel)
set_option maxRecDepth 20000 in
theorem gX2_answer_X0_reply : GoodIn wsX2_answer (wsV RX2 115 RX0 yX0_reply wsX0_reply) := goodIn_app (goodIn_of _ (by decide +kernel)) ggX2_answer_X0_reply
theorem dX2_answer_0 : decode cX2_answer 0 = .ok (.aload_n 0, 1) := by decide +kernel
theorem dX2_answer_1 : decode cX2_answer 1 = .ok (.getfield 10, 3) := by decide +kernel
theorem dX2_answer_4 : decode cX2_answer 4 = .ok (.iload_n 1, 1) := by decide +kernel
theorem dX2_answer_5 : decode cX2_answer 5 = .ok (.invokevirtual 78, 3) := by decide +kernel
theorem dX2_answer_8 : decode cX2_answer 8 = .ok (.ifCond .eq 14, 3) := by decide +kernel
theorem dX2_answer_11 : decode cX2_answer 11 = .ok (.aload_n 0, 1) := by decide +kernel
theorem dX2_answer_12 : decode cX2_answer 12 = .ok (.getfield 10, 3) := by decide +kernel
theorem dX2_answer_15 : decode cX2_answer 15 = .ok (.iload_n 2, 1) := by decide +kernel
theorem dX2_answer_16 : decode cX2_answer 16 = .ok (.invokevirtual 63, 3) := by decide +kernel
theorem dX2_answer_19 : decode cX2_answer 19 = .ok (.ifCond .ne 9, 3) := by decide +kernel
theorem dX2_answer_22 : decode cX2_answer 22 = .ok (.aload_n 0, 1) := by decide +kernel
theorem dX2_answer_23 : decode cX2_answer 23 = .ok (.iconst (-1), 1) := by decide +kernel
theorem dX2_answer_24 : decode cX2_answer 24 = .ok (.invokevirtual 40, 3) := by decide +kernel
theorem dX2_answer_27 : decode cX2_answer 27 = .ok (.ireturn, 1) := by decide +kernel
theorem dX2_answer_28 : decode cX2_answer 28 = .ok (.iload_n 3, 1) := by decide +kernel
theorem dX2_answer_29 : decode cX2_answer 29 = .ok (.iconst (-1), 1) := by decide +kernel
theorem dX2_answer_30 : decode cX2_answer 30 = .ok (.if_icmp .ge 10, 3) := by decide +kernel
theorem dX2_answer_33 : decode cX2_answer 33 = .ok (.aload_n 0, 1) := by decide +kernel
theorem dX2_answer_34 : decode cX2_answer 34 = .ok (.bipush (-4), 2) := by decide +kernel
theorem dX2_answer_36 : decode cX2_answer 36 = .ok (.invokevirtual 40, 3) := by decide +kernel
theorem dX2_answer_39 : decode cX2_answer 39 = .ok (.ireturn, 1) := by decide +kernel
theorem dX2_answer_40 : decode cX2_answer 40 = .ok (.iload_n 3, 1) := by decide +kernel
theorem dX2_answer_41 : decode cX2_answer 41 = .ok (.bipush 63, 2) := by decide +kernel
theorem dX2_answer_43 : decode cX2_answer 43 = .ok (.if_icmp .le 10, 3) := by decide +kernel
theorem dX2_answer_46 : decode cX2_answer 46 = .ok (.aload_n 0, 1) := by decide +kernel
theorem dX2_answer_47 : decode cX2_answer 47 = .ok (.bipush (-6), 2) := by decide +kernel
theorem dX2_answer_49 : decode cX2_answer 49 = .ok (.invokevirtual 40, 3) := by decide +kernel
theorem dX2_answer_52 : decode cX2_answer 52 = .ok (.ireturn, 1) := by decide +kernel
theorem dX2_answer_53 : decode cX2_answer 53 = .ok (.aload_n 0, 1) := by decide +kernel
theorem dX2_answer_54 : decode cX2_answer 54 = .ok (.getfield 10, 3) := by decide +kernel
theorem dX2_answer_57 : decode cX2_answer 57 = .ok (.iload_n 1, 1) := by decide +kernel
theorem dX2_answer_58 : decode cX2_answer 58 = .ok (.iload_n 2, 1) := by decide +kernel
theorem dX2_answer_59 : decode cX2_answer 59 = .ok (.aload_n 0, 1) := by decide +kernel
theorem dX2_answer_60 : decode cX2_answer 60 = .ok (.getfield 10, 3) := by decide +kernel
theorem dX2_answer_63 : decode cX2_answer 63 = .ok (.getfield 90, 3) := by decide +kernel
theorem dX2_answer_66 : decode cX2_answer 66 = .ok (.iconst 1, 1) := by decide +kernel
theorem dX2_answer_67 : decode cX2_answer 67 = .ok (.iadd, 1) := by decide +kernel
theorem dX2_answer_68 : decode cX2_answer 68 = .ok (.iload_n 3, 1) := by decide +kernel
theorem dX2_answer_69 : decode cX2_answer 69 = .ok (.ifCond .ge 13, 3) := by decide +kernel
theorem dX2_answer_72 : decode cX2_answer 72 = .ok (.aload_n 0, 1) := by decide +kernel
theorem dX2_answer_73 : decode cX2_answer 73 = .ok (.getfield 10, 3) := by decide +kernel
theorem dX2_answer_76 : decode cX2_answer 76 = .ok (.getfield 60, 3) := by decide +kernel
theorem dX2_answer_79 : decode cX2_answer 79 = .ok (.goto 4, 3) := by decide +kernel
theorem dX2_answer_82 : decode cX2_answer 82 = .ok (.iload_n 3, 1) := by decide +kernel
theorem dX2_answer_83 : decode cX2_answer 83 = .ok (.invokevirtual 115, 3) := by decide +kernel
theorem dX2_answer_86 : decode cX2_answer 86 = .ok (.ireturn, 1) := by decide +kernel
set_option maxRecDepth 20000 in
theorem ggX2_fits_X2_isPart : GoodIn wsX2_fits wsX2_isPart := goodIn_r _ [5] (by decide +kernel) (by decide +kernel)
set_option maxRecDepth 20000 in
theorem gX2_fits_X2_isPart : GoodIn wsX2_fits (va_wsS RX2 119 yX2_isPart wsX2_isPart) := goodIn_app (goodIn_of _ (by decide +kernel)) ggX2_fits_X2_isPart
set_option maxRecDepth 20000 in
theorem ggX2_fits_X0_fitting : GoodIn wsX2_fits wsX0_fitting := goodIn_r _ [10, 11, 12, 13, 14, 15, 9, 16, 17, 18, 19, 20, 21, 22, 23, 24, 25, 26, 27, 28, 29, 30, 31, 32, 33, 34, 35, 36, 37, 38, 39, 40, 41, 42, 43, 44, 45, 46, 47, 48, 49, 50, 51, 52, 53, 54, 55, 56, 57, 58, 59, 60, 61, 62, 63, 64, 65, 66, 67, 92, 93, 94, 95, 96, 97, 98, 99, 100, 101, 102, 103, 104, 105, 106, 107, 108] (by decide +kernel) (by decide +kernel)
set_option maxRecDepth 20000 in
theorem gX2_fits_X0_fitting : GoodIn wsX2_fits (wsV RX2 122 RX0 yX0_fitting wsX0_fitting) := goodIn_app (goodIn_of _ (by decide +kernel)) ggX2_fits_X0_fitting
set_option maxRecDepth 20000 in
theorem ggX2_fits_X2_sizeOrLeast : GoodIn wsX2_fits wsX2_sizeOrLeast := goodIn_r _ [70, 71, 72, 73, 74, 75, 76, 77] (by decide +kernel) (by decide +kernel)
set_option maxRecDepth 20000 in
theorem gX2_fits_X2_sizeOrLeast : GoodIn wsX2_fits (va_wsS RX2 126 yX2_sizeOrLeast wsX2_sizeOrLeast) := goodIn_app (goodIn_of _ (by decide +kernel)) ggX2_fits_X2_sizeOrLeast
set_option maxRecDepth 20000 in
theorem ggX2_fits_X2_refused : GoodIn wsX2_fits wsX2_refused := goodIn_r _ [81, 82, 83, 84, 85, 86, 87, 88, 89, 90, 91] (by decide +kernel) (by decide +kernel)
set_option maxRecDepth 20000 in
theorem gX2_fits_X2_refused : GoodIn wsX2_fits (wsV RX2 40 RX2 yX2_refused wsX2_refused) := goodIn_app (goodIn_of _ (by decide +kernel)) ggX2_fits_X2_refused
theorem dX2_fits_0 : decode cX2_fits 0 = .ok (.iload_n 1, 1) := by decide +kernel
theorem dX2_fits_1 : decode cX2_fits 1 = .ok (.invokestatic 119, 3) := by decide +kernel
theorem dX2_fits_4 : decode cX2_fits 4 = .ok (.ifCond .eq 17, 3) := by decide +kernel
theorem dX2_fits_7 : decode cX2_fits 7 = .ok (.aload_n 0, 1) := by decide +kernel
theorem dX2_fits_8 : decode cX2_fits 8 = .ok (.getfield 10, 3) := by decide +kernel
theorem dX2_fits_11 : decode cX2_fits 11 = .ok (.invokevirtual 122, 3) := by decide +kernel
theorem dX2_fits_14 : decode cX2_fits 14 = .ok (.iload_n 1, 1) := by decide +kernel
theorem dX2_fits_15 : decode cX2_fits 15 = .ok (.invokestatic 126, 3) := by decide +kernel
theorem dX2_fits_18 : decode cX2_fits 18 = .ok (.goto 9, 3) := by decide +kernel
theorem dX2_fits_21 : decode cX2_fits 21 = .ok (.aload_n 0, 1) := by decide +kernel
theorem dX2_fits_22 : decode cX2_fits 22 = .ok (.bipush (-2), 2) := by decide +kernel
theorem dX2_fits_24 : decode cX2_fits 24 = .ok (.invokevirtual 40, 3) := by decide +kernel
theorem dX2_fits_27 : decode cX2_fits 27 = .ok (.ireturn, 1) := by decide +kernel
set_option maxRecDepth 20000 in
theorem ggX2_jury_X2_isPart : GoodIn wsX2_jury wsX2_isPart := goodIn_r _ [5] (by decide +kernel) (by decide +kernel)
set_option maxRecDepth 20000 in
theorem gX2_jury_X2_isPart : GoodIn wsX2_jury (va_wsS RX2 119 yX2_isPart wsX2_isPart) := goodIn_app (goodIn_of _ (by decide +kernel)) ggX2_jury_X2_isPart
set_option maxRecDepth 20000 in
theorem ggX2_jury_X0_juryFitting : GoodIn wsX2_jury wsX0_juryFitting := goodIn_r _ [10, 11, 12, 13, 14, 15, 16, 17, 18, 19, 9, 20, 21, 22, 23, 24, 25, 26, 27, 28, 29, 30, 31, 32, 33, 34, 35, 36, 37, 38, 39, 40, 41, 42, 43, 44, 45, 46, 47, 48, 49, 50, 51, 52, 53, 54, 55, 56, 57, 58, 83, 84, 85, 86, 87, 88, 89, 90, 91, 92, 93, 94, 95, 96, 97, 98, 99] (by decide +kernel) (by decide +kernel)
set_option maxRecDepth 20000 in
theorem gX2_jury_X0_juryFitting : GoodIn wsX2_jury (wsV RX2 130 RX0 yX0_juryFitting wsX0_juryFitting) := goodIn_app (goodIn_of _ (by decide +kernel)) ggX2_jury_X0_juryFitting
set_option maxRecDepth 20000 in
theorem ggX2_jury_X2_sizeOrLeast : GoodIn wsX2_jury wsX2_sizeOrLeast := goodIn_r _ [61, 62, 63, 64, 65, 66, 67, 68] (by decide +kernel) (by decide +kernel)
set_option maxRecDepth 20000 in
theorem gX2_jury_X2_sizeOrLeast : GoodIn wsX2_jury (va_wsS RX2 126 yX2_sizeOrLeast wsX2_sizeOrLeast) := goodIn_app (goodIn_of _ (by decide +kernel)) ggX2_jury_X2_sizeOrLeast
set_option maxRecDepth 20000 in
theorem ggX2_jury_X2_refused : GoodIn wsX2_jury wsX2_refused := goodIn_r _ [72, 73, 74, 75, 76, 77, 78, 79, 80, 81, 82] (by decide +kernel) (by decide +kernel)
set_option maxRecDepth 20000 in
theorem gX2_jury_X2_refused : GoodIn wsX2_jury (wsV RX2 40 RX2 yX2_refused wsX2_refused) := goodIn_app (goodIn_of _ (by decide +kernel)) ggX2_jury_X2_refused
theorem dX2_jury_0 : decode cX2_jury 0 = .ok (.iload_n 1, 1) := by decide +kernel
theorem dX2_jury_1 : decode cX2_jury 1 = .ok (.invokestatic 119, 3) := by decide +kernel
theorem dX2_jury_4 : decode cX2_jury 4 = .ok (.ifCond .eq 17, 3) := by decide +kernel
theorem dX2_jury_7 : decode cX2_jury 7 = .ok (.aload_n 0, 1) := by decide +kernel
theorem dX2_jury_8 : decode cX2_jury 8 = .ok (.getfield 10, 3) := by decide +kernel
theorem dX2_jury_11 : decode cX2_jury 11 = .ok (.invokevirtual 130, 3) := by decide +kernel
theorem dX2_jury_14 : decode cX2_jury 14 = .ok (.iload_n 1, 1) := by decide +kernel
theorem dX2_jury_15 : decode cX2_jury 15 = .ok (.invokestatic 126, 3) := by decide +kernel
theorem dX2_jury_18 : decode cX2_jury 18 = .ok (.goto 9, 3) := by decide +kernel
theorem dX2_jury_21 : decode cX2_jury 21 = .ok (.aload_n 0, 1) := by decide +kernel
theorem dX2_jury_22 : decode cX2_jury 22 = .ok (.bipush (-2), 2) := by decide +kernel
theorem dX2_jury_24 : decode cX2_jury 24 = .ok (.invokevirtual 40, 3) := by decide +kernel
theorem dX2_jury_27 : decode cX2_jury 27 = .ok (.ireturn, 1) := by decide +kernel
set_option maxRecDepth 20000 in
theorem ggX2_sure_X2_isPart : GoodIn wsX2_sure wsX2_isPart := goodIn_r _ [5] (by decide +kernel) (by decide +kernel)
set_option maxRecDepth 20000 in
theorem gX2_sure_X2_isPart : GoodIn wsX2_sure (va_wsS RX2 119 yX2_isPart wsX2_isPart) := goodIn_app (goodIn_of _ (by decide +kernel)) ggX2_sure_X2_isPart
set_option maxRecDepth 20000 in
theorem ggX2_sure_X2_refused : GoodIn wsX2_sure wsX2_refused := goodIn_r _ [9, 10, 87, 88, 89, 90, 91, 92, 93, 94, 95] (by decide +kernel) (by decide +kernel)
set_option maxRecDepth 20000 in
theorem gX2_sure_X2_refused : GoodIn wsX2_sure (wsV RX2 40 RX2 yX2_refused wsX2_refused) := goodIn_app (goodIn_of _ (by decide +kernel)) ggX2_sure_X2_refused
set_option maxRecDepth 20000 in
theorem ggX2_sure_X0_fitting : GoodIn wsX2_sure wsX0_fitting := goodIn_r _ [15, 16, 17, 18, 19, 20, 14, 21, 22, 23, 24, 25, 26, 27, 28, 29, 30, 31, 32, 33, 34, 35, 36, 37, 38, 39, 40, 41, 42, 43, 44, 45, 46, 47, 48, 49, 50, 51, 52, 53, 54, 55, 56, 57, 58, 59, 60, 61, 62, 63, 64, 65, 66, 67, 68, 69, 70, 71, 72, 96, 97, 98, 99, 100, 101, 102, 103, 104, 105, 106, 107, 108, 109, 110, 111, 112] (by decide +kernel) (by decide +kernel)
set_option maxRecDepth 20000 in
theorem gX2_sure_X0_fitting : GoodIn wsX2_sure (wsV RX2 122 RX0 yX0_fitting wsX0_fitting) := goodIn_app (goodIn_of _ (by decide +kernel)) ggX2_sure_X0_fitting
set_option maxRecDepth 20000 in
theorem ggX2_sure_X0_juryFitting : GoodIn wsX2_sure wsX0_juryFitting := goodIn_r _ [76, 16, 17, 48, 22, 24, 25, 30, 31, 32, 14, 33, 34, 35, 36, 37, 38, 39, 40, 41, 42, 43, 44, 45, 46, 47, 49, 50, 51, 52, 53, 54, 55, 56, 57, 58, 59, 60, 61, 62, 63, 64, 65, 66, 67, 68, 69, 70, 71, 72, 96, 97, 98, 99, 100, 101, 102, 103, 104, 105, 106, 107, 108, 109, 110, 111, 112] (by decide +kernel) (by decide +kernel)
set_option maxRecDepth 20000 in
theorem gX2_sure_X0_juryFitting : GoodIn wsX2_sure (wsV RX2 130 RX0 yX0_juryFitting wsX0_juryFitting) := goodIn_app (goodIn_of _ (by decide +kernel)) ggX2_sure_X0_juryFitting
set_option maxRecDepth 20000 in
theorem ggX2_sure_X2_factCases : GoodIn wsX2_sure wsX2_factCases := goodIn_r _ [79, 80, 81, 82, 4, 83] (by decide +kernel) (by decide +kernel)
set_option maxRecDepth 20000 in
theorem gX2_sure_X2_factCases : GoodIn wsX2_sure (va_wsS RX2 133 yX2_factCases wsX2_factCases) := goodIn_app (goodIn_of _ (by decide +kernel)) ggX2_sure_X2_factCases
set_option maxRecDepth 20000 in
theorem ggX2_sure_X2_isSure : GoodIn wsX2_sure wsX2_isSure := goodIn_r _ [86] (by decide +kernel) (by decide +kernel)
set_option maxRecDepth 20000 in
theorem gX2_sure_X2_isSure : GoodIn wsX2_sure (va_wsS RX2 137 yX2_isSure wsX2_isSure) := goodIn_app (goodIn_of _ (by decide +kernel)) ggX2_sure_X2_isSure
theorem dX2_sure_0 : decode cX2_sure 0 = .ok (.iload_n 1, 1) := by decide +kernel
theorem dX2_sure_1 : decode cX2_sure 1 = .ok (.invokestatic 119, 3) := by decide +kernel
theorem dX2_sure_4 : decode cX2_sure 4 = .ok (.ifCond .ne 10, 3) := by decide +kernel
theorem dX2_sure_7 : decode cX2_sure 7 = .ok (.aload_n 0, 1) := by decide +kernel
theorem dX2_sure_8 : decode cX2_sure 8 = .ok (.bipush (-2), 2) := by decide +kernel
theorem dX2_sure_10 : decode cX2_sure 10 = .ok (.invokevirtual 40, 3) := by decide +kernel
theorem dX2_sure_13 : decode cX2_sure 13 = .ok (.ireturn, 1) := by decide +kernel
theorem dX2_sure_14 : decode cX2_sure 14 = .ok (.iload_n 1, 1) := by decide +kernel
theorem dX2_sure_15 : decode cX2_sure 15 = .ok (.ifCond .ne 13, 3) := by decide +kernel
theorem dX2_sure_18 : decode cX2_sure 18 = .ok (.aload_n 0, 1) := by decide +kernel
theorem dX2_sure_19 : decode cX2_sure 19 = .ok (.getfield 10, 3) := by decide +kernel
theorem dX2_sure_22 : decode cX2_sure 22 = .ok (.invokevirtual 122, 3) := by decide +kernel
theorem dX2_sure_25 : decode cX2_sure 25 = .ok (.goto 10, 3) := by decide +kernel
theorem dX2_sure_28 : decode cX2_sure 28 = .ok (.aload_n 0, 1) := by decide +kernel
theorem dX2_sure_29 : decode cX2_sure 29 = .ok (.getfield 10, 3) := by decide +kernel
theorem dX2_sure_32 : decode cX2_sure 32 = .ok (.invokevirtual 130, 3) := by decide +kernel
theorem dX2_sure_35 : decode cX2_sure 35 = .ok (.lstore_n 2, 1) := by decide +kernel
theorem dX2_sure_36 : decode cX2_sure 36 = .ok (.iconst 0, 1) := by decide +kernel
theorem dX2_sure_37 : decode cX2_sure 37 = .ok (.istore 4, 2) := by decide +kernel
theorem dX2_sure_39 : decode cX2_sure 39 = .ok (.iconst 0, 1) := by decide +kernel
theorem dX2_sure_40 : decode cX2_sure 40 = .ok (.istore 5, 2) := by decide +kernel
theorem dX2_sure_42 : decode cX2_sure 42 = .ok (.iload 5, 2) := by decide +kernel
theorem dX2_sure_44 : decode cX2_sure 44 = .ok (.bipush 6, 2) := by decide +kernel
theorem dX2_sure_46 : decode cX2_sure 46 = .ok (.if_icmp .ge 30, 3) := by decide +kernel
theorem dX2_sure_49 : decode cX2_sure 49 = .ok (.lload_n 2, 1) := by decide +kernel
theorem dX2_sure_50 : decode cX2_sure 50 = .ok (.iload 5, 2) := by decide +kernel
theorem dX2_sure_52 : decode cX2_sure 52 = .ok (.invokestatic 133, 3) := by decide +kernel
theorem dX2_sure_55 : decode cX2_sure 55 = .ok (.invokestatic 137, 3) := by decide +kernel
theorem dX2_sure_58 : decode cX2_sure 58 = .ok (.ifCond .eq 12, 3) := by decide +kernel
theorem dX2_sure_61 : decode cX2_sure 61 = .ok (.iload 4, 2) := by decide +kernel
theorem dX2_sure_63 : decode cX2_sure 63 = .ok (.iconst 1, 1) := by decide +kernel
theorem dX2_sure_64 : decode cX2_sure 64 = .ok (.iload 5, 2) := by decide +kernel
theorem dX2_sure_66 : decode cX2_sure 66 = .ok (.ishl, 1) := by decide +kernel
theorem dX2_sure_67 : decode cX2_sure 67 = .ok (.ior, 1) := by decide +kernel
theorem dX2_sure_68 : decode cX2_sure 68 = .ok (.istore 4, 2) := by decide +kernel
theorem dX2_sure_70 : decode cX2_sure 70 = .ok (.iinc 5 1, 3) := by decide +kernel
theorem dX2_sure_73 : decode cX2_sure 73 = .ok (.goto (-31), 3) := by decide +kernel
theorem dX2_sure_76 : decode cX2_sure 76 = .ok (.iload 4, 2) := by decide +kernel
theorem dX2_sure_78 : decode cX2_sure 78 = .ok (.ireturn, 1) := by decide +kernel
set_option maxRecDepth 20000 in
theorem ggX2_next_X2_isPart : GoodIn wsX2_next wsX2_isPart := goodIn_r _ [4] (by decide +kernel) (by decide +kernel)
set_option maxRecDepth 20000 in
theorem gX2_next_X2_isPart : GoodIn wsX2_next (va_wsS RX2 119 yX2_isPart wsX2_isPart) := goodIn_app (goodIn_of _ (by decide +kernel)) ggX2_next_X2_isPart
set_option maxRecDepth 20000 in
theorem ggX2_next_X2_bestAsking : GoodIn wsX2_next wsX2_bestAsking := goodIn_r _ [8, 9, 10, 11, 12, 13, 14, 15, 16, 17, 18, 19, 20, 21, 22, 23, 24, 25, 26, 27, 28, 29, 30, 31, 32, 33, 34, 35, 36, 37, 38, 39, 40, 41, 42, 43, 44, 45, 46, 47, 48, 49, 50, 51, 52, 53, 54, 55, 56, 57, 58, 59, 60, 61, 62, 63, 64, 65, 66, 67, 68, 69, 70, 71, 72, 73, 74, 75, 76, 3, 77, 78, 79, 80, 81, 82, 83, 84, 85, 86, 87, 88, 89, 90, 96, 97, 98, 99, 100, 101, 102, 103, 104, 105, 106, 107, 108, 109, 110, 111, 112, 113, 114, 115, 116, 117, 118, 119, 120, 121] (by decide +kernel) (by decide +kernel)
set_option maxRecDepth 20000 in
theorem gX2_next_X2_bestAsking : GoodIn wsX2_next (wsV RX2 141 RX2 yX2_bestAsking wsX2_bestAsking) := goodIn_app (goodIn_of _ (by decide +kernel)) ggX2_next_X2_bestAsking
set_option maxRecDepth 20000 in
theorem ggX2_next_X2_refused : GoodIn wsX2_next wsX2_refused := goodIn_r _ [94, 95, 96, 97, 98, 99, 100, 101, 102, 103, 104] (by decide +kernel) (by decide +kernel)
set_option maxRecDepth 20000 in
theorem gX2_next_X2_refused : GoodIn wsX2_next (wsV RX2 40 RX2 yX2_refused wsX2_refused) := goodIn_app (goodIn_of _ (by decide +kernel)) ggX2_next_X2_refused
theorem dX2_next_0 : decode cX2_next 0 = .ok (.iload_n 1, 1) := by decide +kernel
theorem dX2_next_1 : decode cX2_next 1 = .ok (.invokestatic 119, 3) := by decide +kernel
theorem dX2_next_4 : decode cX2_next 4 = .ok (.ifCond .eq 11, 3) := by decide +kernel
theorem dX2_next_7 : decode cX2_next 7 = .ok (.aload_n 0, 1) := by decide +kernel
theorem dX2_next_8 : decode cX2_next 8 = .ok (.iload_n 1, 1) := by decide +kernel
theorem dX2_next_9 : decode cX2_next 9 = .ok (.invokevirtual 141, 3) := by decide +kernel
theorem dX2_next_12 : decode cX2_next 12 = .ok (.goto 9, 3) := by decide +kernel
theorem dX2_next_15 : decode cX2_next 15 = .ok (.aload_n 0, 1) := by decide +kernel
theorem dX2_next_16 : decode cX2_next 16 = .ok (.bipush (-2), 2) := by decide +kernel
theorem dX2_next_18 : decode cX2_next 18 = .ok (.invokevirtual 40, 3) := by decide +kernel
theorem dX2_next_21 : decode cX2_next 21 = .ok (.ireturn, 1) := by decide +kernel
set_option maxRecDepth 20000 in
theorem ggX2_settle_X0_hasWitness : GoodIn wsX2_settle wsX0_hasWitness := goodIn_r _ [6, 7, 118, 119, 120, 121, 122, 123, 124, 125, 126, 127, 128, 129, 130, 131, 132, 133, 134] (by decide +kernel) (by decide +kernel)
set_option maxRecDepth 20000 in
theorem gX2_settle_X0_hasWitness : GoodIn wsX2_settle (wsV RX2 78 RX0 yX0_hasWitness wsX0_hasWitness) := goodIn_app (goodIn_of _ (by decide +kernel)) ggX2_settle_X0_hasWitness
set_option maxRecDepth 20000 in
theorem ggX2_settle_X2_isFact : GoodIn wsX2_settle wsX2_isFact := goodIn_r _ [11] (by decide +kernel) (by decide +kernel)
set_option maxRecDepth 20000 in
theorem gX2_settle_X2_isFact : GoodIn wsX2_settle (va_wsS RX2 56 yX2_isFact wsX2_isFact) := goodIn_app (goodIn_of _ (by decide +kernel)) ggX2_settle_X2_isFact
set_option maxRecDepth 20000 in
theorem ggX2_settle_X2_refused : GoodIn wsX2_settle wsX2_refused := goodIn_r _ [15, 16, 109, 110, 111, 112, 113, 114, 115, 116, 117] (by decide +kernel) (by decide +kernel)
set_option maxRecDepth 20000 in
theorem gX2_settle_X2_refused : GoodIn wsX2_settle (wsV RX2 40 RX2 yX2_refused wsX2_refused) := goodIn_app (goodIn_of _ (by decide +kernel)) ggX2_settle_X2_refused
set_option maxRecDepth 20000 in
theorem ggX2_settle_X2_isPart : GoodIn wsX2_settle wsX2_isPart := goodIn_r _ [19] (by decide +kernel) (by decide +kernel)
set_option maxRecDepth 20000 in
theorem gX2_settle_X2_isPart : GoodIn wsX2_settle (va_wsS RX2 119 yX2_isPart wsX2_isPart) := goodIn_app (goodIn_of _ (by decide +kernel)) ggX2_settle_X2_isPart
set_option maxRecDepth 20000 in
theorem ggX2_settle_X2_factCases : GoodIn wsX2_settle wsX2_factCases := goodIn_r _ [22, 23, 8, 9, 10, 11] (by decide +kernel) (by decide +kernel)
set_option maxRecDepth 20000 in
theorem gX2_settle_X2_factCases : GoodIn wsX2_settle (va_wsS RX2 133 yX2_factCases wsX2_factCases) := goodIn_app (goodIn_of _ (by decide +kernel)) ggX2_settle_X2_factCases
set_option maxRecDepth 20000 in
theorem ggX2_settle_X2_settling : GoodIn wsX2_settle wsX2_settling := goodIn_r _ [27, 1, 28, 29, 30, 31, 32, 5, 33, 34, 35, 36, 37, 38, 39, 40, 41, 42, 43, 44, 45, 46, 47, 48, 49, 50, 51, 52, 53, 54, 55, 56, 57, 3, 4, 6, 7, 58, 59, 60, 61, 62, 63, 64, 65, 66, 67, 68, 69, 70, 71, 72, 73, 74, 75, 76, 77, 78, 79, 80, 81, 82, 83, 84, 85, 86, 87, 88, 10, 89, 90, 91, 92, 93, 94, 95, 96, 97, 98, 99, 100, 101, 102, 103, 104, 105, 106, 107, 108, 109, 110, 111, 112, 113, 114, 115, 116, 117, 118, 119, 120, 121, 122, 123, 124, 125, 126, 127, 128, 129, 130, 131, 132, 133, 134] (by decide +kernel) (by decide +kernel)
set_option maxRecDepth 20000 in
theorem gX2_settle_X2_settling : GoodIn wsX2_settle (wsV RX2 144 RX2 yX2_settling wsX2_settling) := goodIn_app (goodIn_of _ (by decide +kernel)) ggX2_settle_X2_settling
theorem dX2_settle_0 : decode cX2_settle 0 = .ok (.aload_n 0, 1) := by decide +kernel
theorem dX2_settle_1 : decode cX2_settle 1 = .ok (.getfield 10, 3) := by decide +kernel
theorem dX2_settle_4 : decode cX2_settle 4 = .ok (.iload_n 1, 1) := by decide +kernel
theorem dX2_settle_5 : decode cX2_settle 5 = .ok (.invokevirtual 78, 3) := by decide +kernel
theorem dX2_settle_8 : decode cX2_settle 8 = .ok (.ifCond .eq 10, 3) := by decide +kernel
theorem dX2_settle_11 : decode cX2_settle 11 = .ok (.iload_n 2, 1) := by decide +kernel
theorem dX2_settle_12 : decode cX2_settle 12 = .ok (.invokestatic 56, 3) := by decide +kernel
theorem dX2_settle_15 : decode cX2_settle 15 = .ok (.ifCond .ne 9, 3) := by decide +kernel
theorem dX2_settle_18 : decode cX2_settle 18 = .ok (.aload_n 0, 1) := by decide +kernel
theorem dX2_settle_19 : decode cX2_settle 19 = .ok (.iconst (-1), 1) := by decide +kernel
theorem dX2_settle_20 : decode cX2_settle 20 = .ok (.invokevirtual 40, 3) := by decide +kernel
theorem dX2_settle_23 : decode cX2_settle 23 = .ok (.ireturn, 1) := by decide +kernel
theorem dX2_settle_24 : decode cX2_settle 24 = .ok (.iload_n 3, 1) := by decide +kernel
theorem dX2_settle_25 : decode cX2_settle 25 = .ok (.invokestatic 119, 3) := by decide +kernel
theorem dX2_settle_28 : decode cX2_settle 28 = .ok (.ifCond .eq 16, 3) := by decide +kernel
theorem dX2_settle_31 : decode cX2_settle 31 = .ok (.aload_n 0, 1) := by decide +kernel
theorem dX2_settle_32 : decode cX2_settle 32 = .ok (.iload_n 1, 1) := by decide +kernel
theorem dX2_settle_33 : decode cX2_settle 33 = .ok (.iload_n 2, 1) := by decide +kernel
theorem dX2_settle_34 : decode cX2_settle 34 = .ok (.invokestatic 133, 3) := by decide +kernel
theorem dX2_settle_37 : decode cX2_settle 37 = .ok (.iload_n 3, 1) := by decide +kernel
theorem dX2_settle_38 : decode cX2_settle 38 = .ok (.invokevirtual 144, 3) := by decide +kernel
theorem dX2_settle_41 : decode cX2_settle 41 = .ok (.goto 9, 3) := by decide +kernel
theorem dX2_settle_44 : decode cX2_settle 44 = .ok (.aload_n 0, 1) := by decide +kernel
theorem dX2_settle_45 : decode cX2_settle 45 = .ok (.bipush (-2), 2) := by decide +kernel
theorem dX2_settle_47 : decode cX2_settle 47 = .ok (.invokevirtual 40, 3) := by decide +kernel
theorem dX2_settle_50 : decode cX2_settle 50 = .ok (.ireturn, 1) := by decide +kernel
set_option maxRecDepth 20000 in
theorem ggX2_words_X0_hasWitness : GoodIn wsX2_words wsX0_hasWitness := goodIn_r _ [7, 8, 71, 72, 73, 74, 75, 76, 77, 78, 79, 80, 81, 82, 83, 84, 85, 86, 87] (by decide +kernel) (by decide +kernel)
set_option maxRecDepth 20000 in
theorem gX2_words_X0_hasWitness : GoodIn wsX2_words (wsV RX2 78 RX0 yX0_hasWitness wsX0_hasWitness) := goodIn_app (goodIn_of _ (by decide +kernel)) ggX2_words_X0_hasWitness
set_option maxRecDepth 20000 in
theorem ggX2_words_X2_refused : GoodIn wsX2_words wsX2_refused := goodIn_r _ [13, 14, 62, 63, 64, 65, 66, 67, 68, 69, 70] (by decide +kernel) (by decide +kernel)
set_option maxRecDepth 20000 in
theorem gX2_words_X2_refused : GoodIn wsX2_words (wsV RX2 40 RX2 yX2_refused wsX2_refused) := goodIn_app (goodIn_of _ (by decide +kernel)) ggX2_words_X2_refused
set_option maxRecDepth 20000 in
theorem ggX2_words_X0_questionsSaid : GoodIn wsX2_words wsX0_questionsSaid := goodIn_r _ [18, 19, 20, 21, 22, 23, 6, 24, 25, 26, 27, 28, 29, 30, 31, 4, 5, 7, 8, 32, 33, 34, 35, 36, 37, 38, 39, 40, 41, 42, 43, 44, 45, 46, 47, 48, 49, 50, 51, 52, 53, 54, 55, 56, 12, 57, 58, 59, 60, 61, 71, 72, 73, 74, 75, 76, 77, 78, 79, 80, 81, 82, 83, 84, 85, 86, 87] (by decide +kernel) (by decide +kernel)
set_option maxRecDepth 20000 in
theorem gX2_words_X0_questionsSaid : GoodIn wsX2_words (wsV RX2 148 RX0 yX0_questionsSaid wsX0_questionsSaid) := goodIn_app (goodIn_of _ (by decide +kernel)) ggX2_words_X0_questionsSaid
theorem dX2_words_0 : decode cX2_words 0 = .ok (.aload_n 0, 1) := by decide +kernel
theorem dX2_words_1 : decode cX2_words 1 = .ok (.getfield 10, 3) := by decide +kernel
theorem dX2_words_4 : decode cX2_words 4 = .ok (.iload_n 1, 1) := by decide +kernel
theorem dX2_words_5 : decode cX2_words 5 = .ok (.invokevirtual 78, 3) := by decide +kernel
theorem dX2_words_8 : decode cX2_words 8 = .ok (.ifCond .ne 9, 3) := by decide +kernel
theorem dX2_words_11 : decode cX2_words 11 = .ok (.aload_n 0, 1) := by decide +kernel
theorem dX2_words_12 : decode cX2_words 12 = .ok (.iconst (-1), 1) := by decide +kernel
theorem dX2_words_13 : decode cX2_words 13 = .ok (.invokevirtual 40, 3) := by decide +kernel
theorem dX2_words_16 : decode cX2_words 16 = .ok (.ireturn, 1) := by decide +kernel
theorem dX2_words_17 : decode cX2_words 17 = .ok (.iload_n 2, 1) := by decide +kernel
theorem dX2_words_18 : decode cX2_words 18 = .ok (.ifCond .lt 8, 3) := by decide +kernel
theorem dX2_words_21 : decode cX2_words 21 = .ok (.iload_n 2, 1) := by decide +kernel
theorem dX2_words_22 : decode cX2_words 22 = .ok (.iconst 3, 1) := by decide +kernel
theorem dX2_words_23 : decode cX2_words 23 = .ok (.if_icmp .lt 10, 3) := by decide +kernel
theorem dX2_words_26 : decode cX2_words 26 = .ok (.aload_n 0, 1) := by decide +kernel
theorem dX2_words_27 : decode cX2_words 27 = .ok (.bipush (-2), 2) := by decide +kernel
theorem dX2_words_29 : decode cX2_words 29 = .ok (.invokevirtual 40, 3) := by decide +kernel
theorem dX2_words_32 : decode cX2_words 32 = .ok (.ireturn, 1) := by decide +kernel
theorem dX2_words_33 : decode cX2_words 33 = .ok (.aload_n 0, 1) := by decide +kernel
theorem dX2_words_34 : decode cX2_words 34 = .ok (.getfield 10, 3) := by decide +kernel
theorem dX2_words_37 : decode cX2_words 37 = .ok (.iload_n 1, 1) := by decide +kernel
theorem dX2_words_38 : decode cX2_words 38 = .ok (.aload_n 0, 1) := by decide +kernel
theorem dX2_words_39 : decode cX2_words 39 = .ok (.getfield 10, 3) := by decide +kernel
theorem dX2_words_42 : decode cX2_words 42 = .ok (.getfield 90, 3) := by decide +kernel
theorem dX2_words_45 : decode cX2_words 45 = .ok (.iconst 1, 1) := by decide +kernel
theorem dX2_words_46 : decode cX2_words 46 = .ok (.iadd, 1) := by decide +kernel
theorem dX2_words_47 : decode cX2_words 47 = .ok (.iload_n 2, 1) := by decide +kernel
theorem dX2_words_48 : decode cX2_words 48 = .ok (.invokevirtual 148, 3) := by decide +kernel
theorem dX2_words_51 : decode cX2_words 51 = .ok (.ireturn, 1) := by decide +kernel
set_option maxRecDepth 20000 in
theorem ggX2_liars_X0_fitting : GoodIn wsX2_liars wsX0_fitting := goodIn_r _ [8, 9, 10, 11, 12, 13, 7, 14, 15, 16, 17, 18, 19, 20, 21, 22, 23, 24, 25, 26, 27, 28, 29, 30, 31, 32, 33, 34, 35, 36, 37, 38, 39, 40, 41, 42, 43, 44, 45, 46, 47, 48, 49, 50, 51, 52, 53, 54, 55, 56, 57, 58, 59, 60, 61, 62, 63, 64, 65, 83, 84, 85, 86, 87, 88, 89, 90, 91, 92, 93, 94, 95, 96, 97, 98, 99] (by decide +kernel) (by decide +kernel)
set_option maxRecDepth 20000 in
theorem gX2_liars_X0_fitting : GoodIn wsX2_liars (wsV RX2 122 RX0 yX0_fitting wsX0_fitting) := goodIn_app (goodIn_of _ (by decide +kernel)) ggX2_liars_X0_fitting
set_option maxRecDepth 20000 in
theorem ggX2_liars_X0_untruths : GoodIn wsX2_liars wsX0_untruths := goodIn_r _ [69, 10, 18, 15, 16, 9, 70, 71, 72, 7, 73, 48, 37, 38, 39, 40, 41, 83, 84, 85, 86, 87, 88, 89, 90, 91, 92, 93, 94, 95, 96, 97, 98, 99] (by decide +kernel) (by decide +kernel)
set_option maxRecDepth 20000 in
theorem gX2_liars_X0_untruths : GoodIn wsX2_liars (wsV RX2 155 RX0 yX0_untruths wsX0_untruths) := goodIn_app (goodIn_of _ (by decide +kernel)) ggX2_liars_X0_untruths
theorem dX2_liars_0 : decode cX2_liars 0 = .ok (.aload_n 0, 1) := by decide +kernel
theorem dX2_liars_1 : decode cX2_liars 1 = .ok (.getfield 10, 3) := by decide +kernel
theorem dX2_liars_4 : decode cX2_liars 4 = .ok (.invokevirtual 122, 3) := by decide +kernel
theorem dX2_liars_7 : decode cX2_liars 7 = .ok (.lstore_n 1, 1) := by decide +kernel
theorem dX2_liars_8 : decode cX2_liars 8 = .ok (.iconst 0, 1) := by decide +kernel
theorem dX2_liars_9 : decode cX2_liars 9 = .ok (.istore_n 3, 1) := by decide +kernel
theorem dX2_liars_10 : decode cX2_liars 10 = .ok (.iconst 0, 1) := by decide +kernel
theorem dX2_liars_11 : decode cX2_liars 11 = .ok (.istore 4, 2) := by decide +kernel
theorem dX2_liars_13 : decode cX2_liars 13 = .ok (.lload_n 1, 1) := by decide +kernel
theorem dX2_liars_14 : decode cX2_liars 14 = .ok (.lconst 0, 1) := by decide +kernel
theorem dX2_liars_15 : decode cX2_liars 15 = .ok (.lcmp, 1) := by decide +kernel
theorem dX2_liars_16 : decode cX2_liars 16 = .ok (.ifCond .eq 48, 3) := by decide +kernel
theorem dX2_liars_19 : decode cX2_liars 19 = .ok (.iload 4, 2) := by decide +kernel
theorem dX2_liars_21 : decode cX2_liars 21 = .ok (.aload_n 0, 1) := by decide +kernel
theorem dX2_liars_22 : decode cX2_liars 22 = .ok (.getfield 10, 3) := by decide +kernel
theorem dX2_liars_25 : decode cX2_liars 25 = .ok (.getfield 152, 3) := by decide +kernel
theorem dX2_liars_28 : decode cX2_liars 28 = .ok (.if_icmp .ge 36, 3) := by decide +kernel
theorem dX2_liars_31 : decode cX2_liars 31 = .ok (.lload_n 1, 1) := by decide +kernel
theorem dX2_liars_32 : decode cX2_liars 32 = .ok (.aload_n 0, 1) := by decide +kernel
theorem dX2_liars_33 : decode cX2_liars 33 = .ok (.getfield 10, 3) := by decide +kernel
theorem dX2_liars_36 : decode cX2_liars 36 = .ok (.iload 4, 2) := by decide +kernel
theorem dX2_liars_38 : decode cX2_liars 38 = .ok (.invokevirtual 155, 3) := by decide +kernel
theorem dX2_liars_41 : decode cX2_liars 41 = .ok (.ldc2_w 158, 3) := by decide +kernel
theorem dX2_liars_44 : decode cX2_liars 44 = .ok (.lxor, 1) := by decide +kernel
theorem dX2_liars_45 : decode cX2_liars 45 = .ok (.land, 1) := by decide +kernel
theorem dX2_liars_46 : decode cX2_liars 46 = .ok (.lconst 0, 1) := by decide +kernel
theorem dX2_liars_47 : decode cX2_liars 47 = .ok (.lcmp, 1) := by decide +kernel
theorem dX2_liars_48 : decode cX2_liars 48 = .ok (.ifCond .ne 10, 3) := by decide +kernel
theorem dX2_liars_51 : decode cX2_liars 51 = .ok (.iload_n 3, 1) := by decide +kernel
theorem dX2_liars_52 : decode cX2_liars 52 = .ok (.iconst 1, 1) := by decide +kernel
theorem dX2_liars_53 : decode cX2_liars 53 = .ok (.iload 4, 2) := by decide +kernel
theorem dX2_liars_55 : decode cX2_liars 55 = .ok (.ishl, 1) := by decide +kernel
theorem dX2_liars_56 : decode cX2_liars 56 = .ok (.ior, 1) := by decide +kernel
theorem dX2_liars_57 : decode cX2_liars 57 = .ok (.istore_n 3, 1) := by decide +kernel
theorem dX2_liars_58 : decode cX2_liars 58 = .ok (.iinc 4 1, 3) := by decide +kernel
theorem dX2_liars_61 : decode cX2_liars 61 = .ok (.goto (-48), 3) := by decide +kernel
theorem dX2_liars_64 : decode cX2_liars 64 = .ok (.iload_n 3, 1) := by decide +kernel
theorem dX2_liars_65 : decode cX2_liars 65 = .ok (.ireturn, 1) := by decide +kernel
set_option maxRecDepth 20000 in
theorem ggX2_clash_X0_heardFitting : GoodIn wsX2_clash wsX0_heardFitting := goodIn_r _ [7, 8, 9, 10, 11, 12, 13, 14, 15, 6, 16, 17, 18, 19, 20, 21, 22, 23, 24, 25, 26, 27, 28, 29, 30, 31, 32, 33, 34, 35, 36, 37, 38, 39, 40, 41, 42, 43, 44, 45, 46, 47, 48, 49, 50, 51, 52, 53, 54, 55, 56, 57, 58, 59, 60, 70, 71, 72, 73, 74, 75, 76, 77, 78, 79, 80, 81, 82, 83, 84, 85, 86] (by decide +kernel) (by decide +kernel)
set_option maxRecDepth 20000 in
theorem gX2_clash_X0_heardFitting : GoodIn wsX2_clash (wsV RX2 160 RX0 yX0_heardFitting wsX0_heardFitting) := goodIn_app (goodIn_of _ (by decide +kernel)) ggX2_clash_X0_heardFitting
theorem dX2_clash_0 : decode cX2_clash 0 = .ok (.iconst 0, 1) := by decide +kernel
theorem dX2_clash_1 : decode cX2_clash 1 = .ok (.istore_n 1, 1) := by decide +kernel
theorem dX2_clash_2 : decode cX2_clash 2 = .ok (.iload_n 1, 1) := by decide +kernel
theorem dX2_clash_3 : decode cX2_clash 3 = .ok (.aload_n 0, 1) := by decide +kernel
theorem dX2_clash_4 : decode cX2_clash 4 = .ok (.getfield 10, 3) := by decide +kernel
theorem dX2_clash_7 : decode cX2_clash 7 = .ok (.getfield 112, 3) := by decide +kernel
theorem dX2_clash_10 : decode cX2_clash 10 = .ok (.if_icmp .ge 59, 3) := by decide +kernel
theorem dX2_clash_13 : decode cX2_clash 13 = .ok (.iload_n 1, 1) := by decide +kernel
theorem dX2_clash_14 : decode cX2_clash 14 = .ok (.iconst 1, 1) := by decide +kernel
theorem dX2_clash_15 : decode cX2_clash 15 = .ok (.iadd, 1) := by decide +kernel
theorem dX2_clash_16 : decode cX2_clash 16 = .ok (.istore_n 2, 1) := by decide +kernel
theorem dX2_clash_17 : decode cX2_clash 17 = .ok (.iload_n 2, 1) := by decide +kernel
theorem dX2_clash_18 : decode cX2_clash 18 = .ok (.aload_n 0, 1) := by decide +kernel
theorem dX2_clash_19 : decode cX2_clash 19 = .ok (.getfield 10, 3) := by decide +kernel
theorem dX2_clash_22 : decode cX2_clash 22 = .ok (.getfield 112, 3) := by decide +kernel
theorem dX2_clash_25 : decode cX2_clash 25 = .ok (.if_icmp .ge 38, 3) := by decide +kernel
theorem dX2_clash_28 : decode cX2_clash 28 = .ok (.aload_n 0, 1) := by decide +kernel
theorem dX2_clash_29 : decode cX2_clash 29 = .ok (.getfield 10, 3) := by decide +kernel
theorem dX2_clash_32 : decode cX2_clash 32 = .ok (.iload_n 1, 1) := by decide +kernel
theorem dX2_clash_33 : decode cX2_clash 33 = .ok (.invokevirtual 160, 3) := by decide +kernel
theorem dX2_clash_36 : decode cX2_clash 36 = .ok (.aload_n 0, 1) := by decide +kernel
theorem dX2_clash_37 : decode cX2_clash 37 = .ok (.getfield 10, 3) := by decide +kernel
theorem dX2_clash_40 : decode cX2_clash 40 = .ok (.iload_n 2, 1) := by decide +kernel
theorem dX2_clash_41 : decode cX2_clash 41 = .ok (.invokevirtual 160, 3) := by decide +kernel
theorem dX2_clash_44 : decode cX2_clash 44 = .ok (.land, 1) := by decide +kernel
theorem dX2_clash_45 : decode cX2_clash 45 = .ok (.lconst 0, 1) := by decide +kernel
theorem dX2_clash_46 : decode cX2_clash 46 = .ok (.lcmp, 1) := by decide +kernel
theorem dX2_clash_47 : decode cX2_clash 47 = .ok (.ifCond .ne 10, 3) := by decide +kernel
theorem dX2_clash_50 : decode cX2_clash 50 = .ok (.bipush 100, 2) := by decide +kernel
theorem dX2_clash_52 : decode cX2_clash 52 = .ok (.iload_n 1, 1) := by decide +kernel
theorem dX2_clash_53 : decode cX2_clash 53 = .ok (.imul, 1) := by decide +kernel
theorem dX2_clash_54 : decode cX2_clash 54 = .ok (.iload_n 2, 1) := by decide +kernel
theorem dX2_clash_55 : decode cX2_clash 55 = .ok (.iadd, 1) := by decide +kernel
theorem dX2_clash_56 : decode cX2_clash 56 = .ok (.ireturn, 1) := by decide +kernel
theorem dX2_clash_57 : decode cX2_clash 57 = .ok (.iinc 2 1, 3) := by decide +kernel
theorem dX2_clash_60 : decode cX2_clash 60 = .ok (.goto (-43), 3) := by decide +kernel
theorem dX2_clash_63 : decode cX2_clash 63 = .ok (.iinc 1 1, 3) := by decide +kernel
theorem dX2_clash_66 : decode cX2_clash 66 = .ok (.goto (-64), 3) := by decide +kernel
theorem dX2_clash_69 : decode cX2_clash 69 = .ok (.bipush (-9), 2) := by decide +kernel
theorem dX2_clash_71 : decode cX2_clash 71 = .ok (.ireturn, 1) := by decide +kernel
set_option maxRecDepth 20000 in
theorem ggX2_trueOf_X0_hasWitness : GoodIn wsX2_trueOf wsX0_hasWitness := goodIn_r _ [10, 11, 44, 45, 46, 47, 48, 49, 50, 51, 52, 53, 54, 55, 56, 57, 58, 59, 60] (by decide +kernel) (by decide +kernel)
set_option maxRecDepth 20000 in
theorem gX2_trueOf_X0_hasWitness : GoodIn wsX2_trueOf (wsV RX2 78 RX0 yX0_hasWitness wsX0_hasWitness) := goodIn_app (goodIn_of _ (by decide +kernel)) ggX2_trueOf_X0_hasWitness
set_option maxRecDepth 20000 in
theorem ggX2_trueOf_X2_refused : GoodIn wsX2_trueOf wsX2_refused := goodIn_r _ [16, 17, 35, 36, 37, 38, 39, 40, 41, 42, 43] (by decide +kernel) (by decide +kernel)
set_option maxRecDepth 20000 in
theorem gX2_trueOf_X2_refused : GoodIn wsX2_trueOf (wsV RX2 40 RX2 yX2_refused wsX2_refused) := goodIn_app (goodIn_of _ (by decide +kernel)) ggX2_trueOf_X2_refused
set_option maxRecDepth 20000 in
theorem ggX2_trueOf_X0_isSo : GoodIn wsX2_trueOf wsX0_isSo := goodIn_r _ [21, 22, 23, 24, 25, 9, 26, 27, 28, 29, 30, 31, 32, 33, 15, 34, 44, 45, 46, 47, 48, 49, 50, 51, 52, 53, 54, 55, 56, 57, 58, 59, 60] (by decide +kernel) (by decide +kernel)
set_option maxRecDepth 20000 in
theorem gX2_trueOf_X0_isSo : GoodIn wsX2_trueOf (wsV RX2 75 RX0 yX0_isSo wsX0_isSo) := goodIn_app (goodIn_of _ (by decide +kernel)) ggX2_trueOf_X0_isSo
theorem dX2_trueOf_0 : decode cX2_trueOf 0 = .ok (.aload_n 0, 1) := by decide +kernel
theorem dX2_trueOf_1 : decode cX2_trueOf 1 = .ok (.getfield 10, 3) := by decide +kernel
theorem dX2_trueOf_4 : decode cX2_trueOf 4 = .ok (.iload_n 1, 1) := by decide +kernel
theorem dX2_trueOf_5 : decode cX2_trueOf 5 = .ok (.invokevirtual 78, 3) := by decide +kernel
theorem dX2_trueOf_8 : decode cX2_trueOf 8 = .ok (.ifCond .ne 9, 3) := by decide +kernel
theorem dX2_trueOf_11 : decode cX2_trueOf 11 = .ok (.aload_n 0, 1) := by decide +kernel
theorem dX2_trueOf_12 : decode cX2_trueOf 12 = .ok (.iconst (-1), 1) := by decide +kernel
theorem dX2_trueOf_13 : decode cX2_trueOf 13 = .ok (.invokevirtual 40, 3) := by decide +kernel
theorem dX2_trueOf_16 : decode cX2_trueOf 16 = .ok (.ireturn, 1) := by decide +kernel
theorem dX2_trueOf_17 : decode cX2_trueOf 17 = .ok (.iconst 0, 1) := by decide +kernel
theorem dX2_trueOf_18 : decode cX2_trueOf 18 = .ok (.istore_n 2, 1) := by decide +kernel
theorem dX2_trueOf_19 : decode cX2_trueOf 19 = .ok (.iconst 0, 1) := by decide +kernel
theorem dX2_trueOf_20 : decode cX2_trueOf 20 = .ok (.istore_n 3, 1) := by decide +kernel
theorem dX2_trueOf_21 : decode cX2_trueOf 21 = .ok (.iload_n 3, 1) := by decide +kernel
theorem dX2_trueOf_22 : decode cX2_trueOf 22 = .ok (.aload_n 0, 1) := by decide +kernel
theorem dX2_trueOf_23 : decode cX2_trueOf 23 = .ok (.getfield 10, 3) := by decide +kernel
theorem dX2_trueOf_26 : decode cX2_trueOf 26 = .ok (.getfield 112, 3) := by decide +kernel
theorem dX2_trueOf_29 : decode cX2_trueOf 29 = .ok (.if_icmp .ge 65, 3) := by decide +kernel
theorem dX2_trueOf_32 : decode cX2_trueOf 32 = .ok (.aload_n 0, 1) := by decide +kernel
theorem dX2_trueOf_33 : decode cX2_trueOf 33 = .ok (.getfield 10, 3) := by decide +kernel
theorem dX2_trueOf_36 : decode cX2_trueOf 36 = .ok (.aload_n 0, 1) := by decide +kernel
theorem dX2_trueOf_37 : decode cX2_trueOf 37 = .ok (.getfield 10, 3) := by decide +kernel
theorem dX2_trueOf_40 : decode cX2_trueOf 40 = .ok (.getfield 103, 3) := by decide +kernel
theorem dX2_trueOf_43 : decode cX2_trueOf 43 = .ok (.iload_n 3, 1) := by decide +kernel
theorem dX2_trueOf_44 : decode cX2_trueOf 44 = .ok (.iaload, 1) := by decide +kernel
theorem dX2_trueOf_45 : decode cX2_trueOf 45 = .ok (.invokevirtual 75, 3) := by decide +kernel
theorem dX2_trueOf_48 : decode cX2_trueOf 48 = .ok (.ifCond .eq 7, 3) := by decide +kernel
theorem dX2_trueOf_51 : decode cX2_trueOf 51 = .ok (.iconst 1, 1) := by decide +kernel
theorem dX2_trueOf_52 : decode cX2_trueOf 52 = .ok (.goto 4, 3) := by decide +kernel
theorem dX2_trueOf_55 : decode cX2_trueOf 55 = .ok (.iconst 0, 1) := by decide +kernel
theorem dX2_trueOf_56 : decode cX2_trueOf 56 = .ok (.istore 4, 2) := by decide +kernel
theorem dX2_trueOf_58 : decode cX2_trueOf 58 = .ok (.aload_n 0, 1) := by decide +kernel
theorem dX2_trueOf_59 : decode cX2_trueOf 59 = .ok (.getfield 10, 3) := by decide +kernel
theorem dX2_trueOf_62 : decode cX2_trueOf 62 = .ok (.getfield 100, 3) := by decide +kernel
theorem dX2_trueOf_65 : decode cX2_trueOf 65 = .ok (.iload_n 3, 1) := by decide +kernel
theorem dX2_trueOf_66 : decode cX2_trueOf 66 = .ok (.iaload, 1) := by decide +kernel
theorem dX2_trueOf_67 : decode cX2_trueOf 67 = .ok (.iload_n 1, 1) := by decide +kernel
theorem dX2_trueOf_68 : decode cX2_trueOf 68 = .ok (.if_icmp .ne 20, 3) := by decide +kernel
theorem dX2_trueOf_71 : decode cX2_trueOf 71 = .ok (.aload_n 0, 1) := by decide +kernel
theorem dX2_trueOf_72 : decode cX2_trueOf 72 = .ok (.getfield 10, 3) := by decide +kernel
theorem dX2_trueOf_75 : decode cX2_trueOf 75 = .ok (.getfield 106, 3) := by decide +kernel
theorem dX2_trueOf_78 : decode cX2_trueOf 78 = .ok (.iload_n 3, 1) := by decide +kernel
theorem dX2_trueOf_79 : decode cX2_trueOf 79 = .ok (.iaload, 1) := by decide +kernel
theorem dX2_trueOf_80 : decode cX2_trueOf 80 = .ok (.iload 4, 2) := by decide +kernel
theorem dX2_trueOf_82 : decode cX2_trueOf 82 = .ok (.if_icmp .ne 6, 3) := by decide +kernel
theorem dX2_trueOf_85 : decode cX2_trueOf 85 = .ok (.iinc 2 1, 3) := by decide +kernel
theorem dX2_trueOf_88 : decode cX2_trueOf 88 = .ok (.iinc 3 1, 3) := by decide +kernel
theorem dX2_trueOf_91 : decode cX2_trueOf 91 = .ok (.goto (-70), 3) := by decide +kernel
theorem dX2_trueOf_94 : decode cX2_trueOf 94 = .ok (.iload_n 2, 1) := by decide +kernel
theorem dX2_trueOf_95 : decode cX2_trueOf 95 = .ok (.ireturn, 1) := by decide +kernel
set_option maxRecDepth 20000 in
theorem ggX2_talker_X0_answersOf : GoodIn wsX2_talker wsX0_answersOf := goodIn_r _ [7, 8, 9, 10, 20, 21, 22, 23, 24, 25, 26, 27, 28, 29, 30, 31, 32, 33, 34, 35, 36] (by decide +kernel) (by decide +kernel)
set_option maxRecDepth 20000 in
theorem gX2_talker_X0_answersOf : GoodIn wsX2_talker (wsV RX2 163 RX0 yX0_answersOf wsX0_answersOf) := goodIn_app (goodIn_of _ (by decide +kernel)) ggX2_talker_X0_answersOf
theorem dX2_talker_0 : decode cX2_talker 0 = .ok (.iconst 0, 1) := by decide +kernel
theorem dX2_talker_1 : decode cX2_talker 1 = .ok (.istore_n 1, 1) := by decide +kernel
theorem dX2_talker_2 : decode cX2_talker 2 = .ok (.bipush (-9), 2) := by decide +kernel
theorem dX2_talker_4 : decode cX2_talker 4 = .ok (.istore_n 2, 1) := by decide +kernel
theorem dX2_talker_5 : decode cX2_talker 5 = .ok (.iconst 0, 1) := by decide +kernel
theorem dX2_talker_6 : decode cX2_talker 6 = .ok (.istore_n 3, 1) := by decide +kernel
theorem dX2_talker_7 : decode cX2_talker 7 = .ok (.iload_n 3, 1) := by decide +kernel
theorem dX2_talker_8 : decode cX2_talker 8 = .ok (.aload_n 0, 1) := by decide +kernel
theorem dX2_talker_9 : decode cX2_talker 9 = .ok (.getfield 10, 3) := by decide +kernel
theorem dX2_talker_12 : decode cX2_talker 12 = .ok (.getfield 152, 3) := by decide +kernel
theorem dX2_talker_15 : decode cX2_talker 15 = .ok (.if_icmp .ge 30, 3) := by decide +kernel
theorem dX2_talker_18 : decode cX2_talker 18 = .ok (.aload_n 0, 1) := by decide +kernel
theorem dX2_talker_19 : decode cX2_talker 19 = .ok (.getfield 10, 3) := by decide +kernel
theorem dX2_talker_22 : decode cX2_talker 22 = .ok (.iload_n 3, 1) := by decide +kernel
theorem dX2_talker_23 : decode cX2_talker 23 = .ok (.invokevirtual 163, 3) := by decide +kernel
theorem dX2_talker_26 : decode cX2_talker 26 = .ok (.istore 4, 2) := by decide +kernel
theorem dX2_talker_28 : decode cX2_talker 28 = .ok (.iload 4, 2) := by decide +kernel
theorem dX2_talker_30 : decode cX2_talker 30 = .ok (.iload_n 1, 1) := by decide +kernel
theorem dX2_talker_31 : decode cX2_talker 31 = .ok (.if_icmp .le 8, 3) := by decide +kernel
theorem dX2_talker_34 : decode cX2_talker 34 = .ok (.iload 4, 2) := by decide +kernel
theorem dX2_talker_36 : decode cX2_talker 36 = .ok (.istore_n 1, 1) := by decide +kernel
theorem dX2_talker_37 : decode cX2_talker 37 = .ok (.iload_n 3, 1) := by decide +kernel
theorem dX2_talker_38 : decode cX2_talker 38 = .ok (.istore_n 2, 1) := by decide +kernel
theorem dX2_talker_39 : decode cX2_talker 39 = .ok (.iinc 3 1, 3) := by decide +kernel
theorem dX2_talker_42 : decode cX2_talker 42 = .ok (.goto (-35), 3) := by decide +kernel
theorem dX2_talker_45 : decode cX2_talker 45 = .ok (.iload_n 2, 1) := by decide +kernel
theorem dX2_talker_46 : decode cX2_talker 46 = .ok (.ireturn, 1) := by decide +kernel
set_option maxRecDepth 20000 in
theorem ggX2_betrays_X0_hasPlace : GoodIn wsX2_betrays wsX0_hasPlace := goodIn_r _ [9, 10, 77, 78, 79, 80, 81, 82, 83, 84, 85, 86, 87, 88, 89, 90, 91, 92, 93] (by decide +kernel) (by decide +kernel)
set_option maxRecDepth 20000 in
theorem gX2_betrays_X0_hasPlace : GoodIn wsX2_betrays (wsV RX2 97 RX0 yX0_hasPlace wsX0_hasPlace) := goodIn_app (goodIn_of _ (by decide +kernel)) ggX2_betrays_X0_hasPlace
set_option maxRecDepth 20000 in
theorem ggX2_betrays_X2_refused : GoodIn wsX2_betrays wsX2_refused := goodIn_r _ [15, 16, 68, 69, 70, 71, 72, 73, 74, 75, 76] (by decide +kernel) (by decide +kernel)
set_option maxRecDepth 20000 in
theorem gX2_betrays_X2_refused : GoodIn wsX2_betrays (wsV RX2 40 RX2 yX2_refused wsX2_refused) := goodIn_app (goodIn_of _ (by decide +kernel)) ggX2_betrays_X2_refused
set_option maxRecDepth 20000 in
theorem ggX2_betrays_X0_questionsSaid : GoodIn wsX2_betrays wsX0_questionsSaid := goodIn_r _ [20, 21, 22, 23, 24, 25, 8, 26, 27, 28, 29, 30, 31, 32, 33, 34, 35, 36, 37, 38, 39, 40, 41, 42, 43, 44, 45, 46, 47, 48, 49, 50, 51, 52, 53, 54, 55, 56, 57, 58, 59, 60, 61, 62, 14, 63, 64, 65, 66, 67, 77, 78, 79, 80, 81, 82, 83, 84, 85, 86, 87, 88, 89, 90, 91, 92, 93] (by decide +kernel) (by decide +kernel)
set_option maxRecDepth 20000 in
theorem gX2_betrays_X0_questionsSaid : GoodIn wsX2_betrays (wsV RX2 148 RX0 yX0_questionsSaid wsX0_questionsSaid) := goodIn_app (goodIn_of _ (by decide +kernel)) ggX2_betrays_X0_questionsSaid
theorem dX2_betrays_0 : decode cX2_betrays 0 = .ok (.aload_n 0, 1) := by decide +kernel
theorem dX2_betrays_1 : decode cX2_betrays 1 = .ok (.getfield 10, 3) := by decide +kernel
theorem dX2_betrays_4 : decode cX2_betrays 4 = .ok (.iload_n 1, 1) := by decide +kernel
theorem dX2_betrays_5 : decode cX2_betrays 5 = .ok (.invokevirtual 97, 3) := by decide +kernel
theorem dX2_betrays_8 : decode cX2_betrays 8 = .ok (.ifCond .ne 9, 3) := by decide +kernel
theorem dX2_betrays_11 : decode cX2_betrays 11 = .ok (.aload_n 0, 1) := by decide +kernel
theorem dX2_betrays_12 : decode cX2_betrays 12 = .ok (.iconst (-1), 1) := by decide +kernel
theorem dX2_betrays_13 : decode cX2_betrays 13 = .ok (.invokevirtual 40, 3) := by decide +kernel
theorem dX2_betrays_16 : decode cX2_betrays 16 = .ok (.ireturn, 1) := by decide +kernel
theorem dX2_betrays_17 : decode cX2_betrays 17 = .ok (.aload_n 0, 1) := by decide +kernel
theorem dX2_betrays_18 : decode cX2_betrays 18 = .ok (.getfield 10, 3) := by decide +kernel
theorem dX2_betrays_21 : decode cX2_betrays 21 = .ok (.aload_n 0, 1) := by decide +kernel
theorem dX2_betrays_22 : decode cX2_betrays 22 = .ok (.getfield 10, 3) := by decide +kernel
theorem dX2_betrays_25 : decode cX2_betrays 25 = .ok (.getfield 100, 3) := by decide +kernel
theorem dX2_betrays_28 : decode cX2_betrays 28 = .ok (.iload_n 1, 1) := by decide +kernel
theorem dX2_betrays_29 : decode cX2_betrays 29 = .ok (.iaload, 1) := by decide +kernel
theorem dX2_betrays_30 : decode cX2_betrays 30 = .ok (.aload_n 0, 1) := by decide +kernel
theorem dX2_betrays_31 : decode cX2_betrays 31 = .ok (.getfield 10, 3) := by decide +kernel
theorem dX2_betrays_34 : decode cX2_betrays 34 = .ok (.getfield 109, 3) := by decide +kernel
theorem dX2_betrays_37 : decode cX2_betrays 37 = .ok (.iload_n 1, 1) := by decide +kernel
theorem dX2_betrays_38 : decode cX2_betrays 38 = .ok (.iaload, 1) := by decide +kernel
theorem dX2_betrays_39 : decode cX2_betrays 39 = .ok (.aload_n 0, 1) := by decide +kernel
theorem dX2_betrays_40 : decode cX2_betrays 40 = .ok (.getfield 10, 3) := by decide +kernel
theorem dX2_betrays_43 : decode cX2_betrays 43 = .ok (.getfield 106, 3) := by decide +kernel
theorem dX2_betrays_46 : decode cX2_betrays 46 = .ok (.iload_n 1, 1) := by decide +kernel
theorem dX2_betrays_47 : decode cX2_betrays 47 = .ok (.iaload, 1) := by decide +kernel
theorem dX2_betrays_48 : decode cX2_betrays 48 = .ok (.invokevirtual 148, 3) := by decide +kernel
theorem dX2_betrays_51 : decode cX2_betrays 51 = .ok (.ireturn, 1) := by decide +kernel
set_option maxRecDepth 20000 in
theorem ggX2_verdict_X2_isFact : GoodIn wsX2_verdict wsX2_isFact := goodIn_r _ [5] (by decide +kernel) (by decide +kernel)
set_option maxRecDepth 20000 in
theorem gX2_verdict_X2_isFact : GoodIn wsX2_verdict (va_wsS RX2 56 yX2_isFact wsX2_isFact) := goodIn_app (goodIn_of _ (by decide +kernel)) ggX2_verdict_X2_isFact
set_option maxRecDepth 20000 in
theorem ggX2_verdict_X2_longRefused : GoodIn wsX2_verdict wsX2_longRefused := goodIn_r _ [9, 10, 11, 12, 13, 4, 14, 15, 89, 90, 91, 92, 93, 94, 95, 96, 97] (by decide +kernel) (by decide +kernel)
set_option maxRecDepth 20000 in
theorem gX2_verdict_X2_longRefused : GoodIn wsX2_verdict (wsV RX2 166 RX2 yX2_longRefused wsX2_longRefused) := goodIn_app (goodIn_of _ (by decide +kernel)) ggX2_verdict_X2_longRefused
set_option maxRecDepth 20000 in
theorem ggX2_verdict_X2_isPart : GoodIn wsX2_verdict wsX2_isPart := goodIn_r _ [18] (by decide +kernel) (by decide +kernel)
set_option maxRecDepth 20000 in
theorem gX2_verdict_X2_isPart : GoodIn wsX2_verdict (va_wsS RX2 119 yX2_isPart wsX2_isPart) := goodIn_app (goodIn_of _ (by decide +kernel)) ggX2_verdict_X2_isPart
set_option maxRecDepth 20000 in
theorem ggX2_verdict_X0_juryFitting : GoodIn wsX2_verdict wsX0_juryFitting := goodIn_r _ [23, 24, 25, 26, 27, 28, 29, 30, 31, 32, 22, 33, 34, 35, 36, 37, 38, 39, 40, 41, 42, 43, 44, 45, 46, 47, 48, 49, 50, 51, 52, 53, 54, 55, 56, 57, 58, 59, 60, 61, 62, 63, 64, 65, 66, 67, 68, 69, 70, 71, 98, 99, 100, 101, 102, 103, 104, 105, 106, 107, 108, 109, 110, 111, 112, 113, 114] (by decide +kernel) (by decide +kernel)
set_option maxRecDepth 20000 in
theorem gX2_verdict_X0_juryFitting : GoodIn wsX2_verdict (wsV RX2 130 RX0 yX0_juryFitting wsX0_juryFitting) := goodIn_app (goodIn_of _ (by decide +kernel)) ggX2_verdict_X0_juryFitting
set_option maxRecDepth 20000 in
theorem ggX2_verdict_X2_factCases : GoodIn wsX2_verdict wsX2_factCases := goodIn_r _ [74, 75, 2, 3, 4, 5] (by decide +kernel) (by decide +kernel)
set_option maxRecDepth 20000 in
theorem gX2_verdict_X2_factCases : GoodIn wsX2_verdict (va_wsS RX2 133 yX2_factCases wsX2_factCases) := goodIn_app (goodIn_of _ (by decide +kernel)) ggX2_verdict_X2_factCases
set_option maxRecDepth 20000 in
theorem ggX2_verdict_J13_bitCount_95d88 : GoodIn wsX2_verdict wsJ13_bitCount_95d88 := goodIn_r _ [79, 80, 81, 82] (by decide +kernel) (by decide +kernel)
set_option maxRecDepth 20000 in
theorem gX2_verdict_J13_bitCount_95d88 : GoodIn wsX2_verdict (va_wsS RX2 169 yJ13_bitCount_95d88 wsJ13_bitCount_95d88) := goodIn_app (goodIn_of _ (by decide +kernel)) ggX2_verdict_J13_bitCount_95d88
set_option maxRecDepth 20000 in
theorem ggX2_verdict_X2_inLeastTerms : GoodIn wsX2_verdict wsX2_inLeastTerms := goodIn_r _ [85, 86, 87, 4, 88] (by decide +kernel) (by decide +kernel)
set_option maxRecDepth 20000 in
theorem gX2_verdict_X2_inLeastTerms : GoodIn wsX2_verdict (va_wsS RX2 175 yX2_inLeastTerms wsX2_inLeastTerms) := goodIn_app (goodIn_of _ (by decide +kernel)) ggX2_verdict_X2_inLeastTerms
theorem dX2_verdict_0 : decode cX2_verdict 0 = .ok (.iload_n 1, 1) := by decide +kernel
theorem dX2_verdict_1 : decode cX2_verdict 1 = .ok (.invokestatic 56, 3) := by decide +kernel
theorem dX2_verdict_4 : decode cX2_verdict 4 = .ok (.ifCond .ne 9, 3) := by decide +kernel
theorem dX2_verdict_7 : decode cX2_verdict 7 = .ok (.aload_n 0, 1) := by decide +kernel
theorem dX2_verdict_8 : decode cX2_verdict 8 = .ok (.iconst (-1), 1) := by decide +kernel
theorem dX2_verdict_9 : decode cX2_verdict 9 = .ok (.invokevirtual 166, 3) := by decide +kernel
theorem dX2_verdict_12 : decode cX2_verdict 12 = .ok (.lreturn, 1) := by decide +kernel
theorem dX2_verdict_13 : decode cX2_verdict 13 = .ok (.iload_n 2, 1) := by decide +kernel
theorem dX2_verdict_14 : decode cX2_verdict 14 = .ok (.invokestatic 119, 3) := by decide +kernel
theorem dX2_verdict_17 : decode cX2_verdict 17 = .ok (.ifCond .ne 10, 3) := by decide +kernel
theorem dX2_verdict_20 : decode cX2_verdict 20 = .ok (.aload_n 0, 1) := by decide +kernel
theorem dX2_verdict_21 : decode cX2_verdict 21 = .ok (.bipush (-2), 2) := by decide +kernel
theorem dX2_verdict_23 : decode cX2_verdict 23 = .ok (.invokevirtual 166, 3) := by decide +kernel
theorem dX2_verdict_26 : decode cX2_verdict 26 = .ok (.lreturn, 1) := by decide +kernel
theorem dX2_verdict_27 : decode cX2_verdict 27 = .ok (.aload_n 0, 1) := by decide +kernel
theorem dX2_verdict_28 : decode cX2_verdict 28 = .ok (.getfield 10, 3) := by decide +kernel
theorem dX2_verdict_31 : decode cX2_verdict 31 = .ok (.invokevirtual 130, 3) := by decide +kernel
theorem dX2_verdict_34 : decode cX2_verdict 34 = .ok (.lstore_n 3, 1) := by decide +kernel
theorem dX2_verdict_35 : decode cX2_verdict 35 = .ok (.lload_n 3, 1) := by decide +kernel
theorem dX2_verdict_36 : decode cX2_verdict 36 = .ok (.iload_n 1, 1) := by decide +kernel
theorem dX2_verdict_37 : decode cX2_verdict 37 = .ok (.invokestatic 133, 3) := by decide +kernel
theorem dX2_verdict_40 : decode cX2_verdict 40 = .ok (.land, 1) := by decide +kernel
theorem dX2_verdict_41 : decode cX2_verdict 41 = .ok (.invokestatic 169, 3) := by decide +kernel
theorem dX2_verdict_44 : decode cX2_verdict 44 = .ok (.lload_n 3, 1) := by decide +kernel
theorem dX2_verdict_45 : decode cX2_verdict 45 = .ok (.invokestatic 169, 3) := by decide +kernel
theorem dX2_verdict_48 : decode cX2_verdict 48 = .ok (.iload_n 2, 1) := by decide +kernel
theorem dX2_verdict_49 : decode cX2_verdict 49 = .ok (.invokestatic 175, 3) := by decide +kernel
theorem dX2_verdict_52 : decode cX2_verdict 52 = .ok (.lreturn, 1) := by decide +kernel
set_option maxRecDepth 20000 in
theorem ggX2_hidden_X2_isHidden : GoodIn wsX2_hidden wsX2_isHidden := goodIn_r _ [7, 1, 8, 9, 10, 11, 12, 13, 14, 15, 16, 17, 18, 19, 20, 21, 22, 23, 24, 25, 26, 27, 28, 29, 30, 31, 32, 33, 34, 35, 36, 37, 38, 39, 40, 41, 42, 43, 44, 45, 46, 47, 48, 49, 50, 51, 52, 6, 53, 54, 55, 56, 57, 58, 59, 60, 61, 62, 63, 64, 65, 66, 67, 68, 69, 70, 71, 72, 73, 74, 75, 76, 77, 78, 79, 80, 81, 82, 83] (by decide +kernel) (by decide +kernel)
set_option maxRecDepth 20000 in
theorem gX2_hidden_X2_isHidden : GoodIn wsX2_hidden (wsV RX2 182 RX2 yX2_isHidden wsX2_isHidden) := goodIn_app (goodIn_of _ (by decide +kernel)) ggX2_hidden_X2_isHidden
theorem dX2_hidden_0 : decode cX2_hidden 0 = .ok (.iconst 0, 1) := by decide +kernel
theorem dX2_hidden_1 : decode cX2_hidden 1 = .ok (.istore_n 1, 1) := by decide +kernel
theorem dX2_hidden_2 : decode cX2_hidden 2 = .ok (.iconst 0, 1) := by decide +kernel
theorem dX2_hidden_3 : decode cX2_hidden 3 = .ok (.istore_n 2, 1) := by decide +kernel
theorem dX2_hidden_4 : decode cX2_hidden 4 = .ok (.iload_n 2, 1) := by decide +kernel
theorem dX2_hidden_5 : decode cX2_hidden 5 = .ok (.aload_n 0, 1) := by decide +kernel
theorem dX2_hidden_6 : decode cX2_hidden 6 = .ok (.getfield 10, 3) := by decide +kernel
theorem dX2_hidden_9 : decode cX2_hidden 9 = .ok (.getfield 179, 3) := by decide +kernel
theorem dX2_hidden_12 : decode cX2_hidden 12 = .ok (.if_icmp .ge 23, 3) := by decide +kernel
theorem dX2_hidden_15 : decode cX2_hidden 15 = .ok (.aload_n 0, 1) := by decide +kernel
theorem dX2_hidden_16 : decode cX2_hidden 16 = .ok (.iload_n 2, 1) := by decide +kernel
theorem dX2_hidden_17 : decode cX2_hidden 17 = .ok (.invokevirtual 182, 3) := by decide +kernel
theorem dX2_hidden_20 : decode cX2_hidden 20 = .ok (.ifCond .eq 9, 3) := by decide +kernel
theorem dX2_hidden_23 : decode cX2_hidden 23 = .ok (.iload_n 1, 1) := by decide +kernel
theorem dX2_hidden_24 : decode cX2_hidden 24 = .ok (.iconst 1, 1) := by decide +kernel
theorem dX2_hidden_25 : decode cX2_hidden 25 = .ok (.iload_n 2, 1) := by decide +kernel
theorem dX2_hidden_26 : decode cX2_hidden 26 = .ok (.ishl, 1) := by decide +kernel
theorem dX2_hidden_27 : decode cX2_hidden 27 = .ok (.ior, 1) := by decide +kernel
theorem dX2_hidden_28 : decode cX2_hidden 28 = .ok (.istore_n 1, 1) := by decide +kernel
theorem dX2_hidden_29 : decode cX2_hidden 29 = .ok (.iinc 2 1, 3) := by decide +kernel
theorem dX2_hidden_32 : decode cX2_hidden 32 = .ok (.goto (-28), 3) := by decide +kernel
theorem dX2_hidden_35 : decode cX2_hidden 35 = .ok (.iload_n 1, 1) := by decide +kernel
theorem dX2_hidden_36 : decode cX2_hidden 36 = .ok (.ireturn, 1) := by decide +kernel
set_option maxRecDepth 20000 in
theorem ggX2_same_X2_isPart : GoodIn wsX2_same wsX2_isPart := goodIn_r _ [4] (by decide +kernel) (by decide +kernel)
set_option maxRecDepth 20000 in
theorem gX2_same_X2_isPart : GoodIn wsX2_same (va_wsS RX2 119 yX2_isPart wsX2_isPart) := goodIn_app (goodIn_of _ (by decide +kernel)) ggX2_same_X2_isPart
set_option maxRecDepth 20000 in
theorem ggX2_same_X2_samePairs : GoodIn wsX2_same wsX2_samePairs := goodIn_r _ [8, 9, 10, 11, 12, 13, 14, 15, 16, 17, 18, 19, 20, 21, 27, 28, 29, 30, 31, 32, 33, 34, 35, 36, 37, 38, 39, 40, 41, 42, 43, 44, 45, 46, 47, 48, 49, 50, 51, 52] (by decide +kernel) (by decide +kernel)
set_option maxRecDepth 20000 in
theorem gX2_same_X2_samePairs : GoodIn wsX2_same (wsV RX2 185 RX2 yX2_samePairs wsX2_samePairs) := goodIn_app (goodIn_of _ (by decide +kernel)) ggX2_same_X2_samePairs
set_option maxRecDepth 20000 in
theorem ggX2_same_X2_refused : GoodIn wsX2_same wsX2_refused := goodIn_r _ [25, 26, 27, 28, 29, 30, 31, 32, 33, 34, 35] (by decide +kernel) (by decide +kernel)
set_option maxRecDepth 20000 in
theorem gX2_same_X2_refused : GoodIn wsX2_same (wsV RX2 40 RX2 yX2_refused wsX2_refused) := goodIn_app (goodIn_of _ (by decide +kernel)) ggX2_same_X2_refused
theorem dX2_same_0 : decode cX2_same 0 = .ok (.iload_n 1, 1) := by decide +kernel
theorem dX2_same_1 : decode cX2_same 1 = .ok (.invokestatic 119, 3) := by decide +kernel
theorem dX2_same_4 : decode cX2_same 4 = .ok (.ifCond .eq 11, 3) := by decide +kernel
theorem dX2_same_7 : decode cX2_same 7 = .ok (.aload_n 0, 1) := by decide +kernel
theorem dX2_same_8 : decode cX2_same 8 = .ok (.iload_n 1, 1) := by decide +kernel
theorem dX2_same_9 : decode cX2_same 9 = .ok (.invokevirtual 185, 3) := by decide +kernel
theorem dX2_same_12 : decode cX2_same 12 = .ok (.goto 9, 3) := by decide +kernel
theorem dX2_same_15 : decode cX2_same 15 = .ok (.aload_n 0, 1) := by decide +kernel
theorem dX2_same_16 : decode cX2_same 16 = .ok (.bipush (-2), 2) := by decide +kernel
theorem dX2_same_18 : decode cX2_same 18 = .ok (.invokevirtual 40, 3) := by decide +kernel
theorem dX2_same_21 : decode cX2_same 21 = .ok (.ireturn, 1) := by decide +kernel
set_option maxRecDepth 20000 in
theorem ggX2_implies_X0_hasQuestion : GoodIn wsX2_implies wsX0_hasQuestion := goodIn_r _ [7, 8, 85, 86, 87, 88, 89, 90, 91, 92, 93, 94, 95, 96, 97, 98, 99, 100, 101] (by decide +kernel) (by decide +kernel)
set_option maxRecDepth 20000 in
theorem gX2_implies_X0_hasQuestion : GoodIn wsX2_implies (wsV RX2 63 RX0 yX0_hasQuestion wsX0_hasQuestion) := goodIn_app (goodIn_of _ (by decide +kernel)) ggX2_implies_X0_hasQuestion
set_option maxRecDepth 20000 in
theorem ggX2_implies_X2_refused : GoodIn wsX2_implies wsX2_refused := goodIn_r _ [13, 14, 76, 77, 78, 79, 80, 81, 82, 83, 84] (by decide +kernel) (by decide +kernel)
set_option maxRecDepth 20000 in
theorem gX2_implies_X2_refused : GoodIn wsX2_implies (wsV RX2 40 RX2 yX2_refused wsX2_refused) := goodIn_app (goodIn_of _ (by decide +kernel)) ggX2_implies_X2_refused
set_option maxRecDepth 20000 in
theorem ggX2_implies_X0_fitting : GoodIn wsX2_implies wsX0_fitting := goodIn_r _ [18, 19, 20, 21, 22, 23, 6, 24, 25, 26, 27, 28, 29, 30, 31, 32, 33, 34, 35, 36, 37, 38, 39, 40, 41, 42, 43, 44, 45, 46, 47, 4, 5, 7, 8, 48, 49, 50, 51, 52, 53, 54, 55, 56, 57, 58, 59, 60, 61, 62, 63, 64, 65, 66, 67, 68, 69, 70, 71, 85, 86, 87, 88, 89, 90, 91, 92, 93, 94, 95, 96, 97, 98, 99, 100, 101] (by decide +kernel) (by decide +kernel)
set_option maxRecDepth 20000 in
theorem gX2_implies_X0_fitting : GoodIn wsX2_implies (wsV RX2 122 RX0 yX0_fitting wsX0_fitting) := goodIn_app (goodIn_of _ (by decide +kernel)) ggX2_implies_X0_fitting
set_option maxRecDepth 20000 in
theorem ggX2_implies_X0_truthOf : GoodIn wsX2_implies wsX0_truthOf := goodIn_r _ [75, 54, 47, 4, 5, 6, 7, 8, 85, 86, 87, 88, 89, 90, 91, 92, 93, 94, 95, 96, 97, 98, 99, 100, 101] (by decide +kernel) (by decide +kernel)
set_option maxRecDepth 20000 in
theorem gX2_implies_X0_truthOf : GoodIn wsX2_implies (wsV RX2 188 RX0 yX0_truthOf wsX0_truthOf) := goodIn_app (goodIn_of _ (by decide +kernel)) ggX2_implies_X0_truthOf
theorem dX2_implies_0 : decode cX2_implies 0 = .ok (.aload_n 0, 1) := by decide +kernel
theorem dX2_implies_1 : decode cX2_implies 1 = .ok (.getfield 10, 3) := by decide +kernel
theorem dX2_implies_4 : decode cX2_implies 4 = .ok (.iload_n 1, 1) := by decide +kernel
theorem dX2_implies_5 : decode cX2_implies 5 = .ok (.invokevirtual 63, 3) := by decide +kernel
theorem dX2_implies_8 : decode cX2_implies 8 = .ok (.ifCond .eq 14, 3) := by decide +kernel
theorem dX2_implies_11 : decode cX2_implies 11 = .ok (.aload_n 0, 1) := by decide +kernel
theorem dX2_implies_12 : decode cX2_implies 12 = .ok (.getfield 10, 3) := by decide +kernel
theorem dX2_implies_15 : decode cX2_implies 15 = .ok (.iload_n 2, 1) := by decide +kernel
theorem dX2_implies_16 : decode cX2_implies 16 = .ok (.invokevirtual 63, 3) := by decide +kernel
theorem dX2_implies_19 : decode cX2_implies 19 = .ok (.ifCond .ne 9, 3) := by decide +kernel
theorem dX2_implies_22 : decode cX2_implies 22 = .ok (.aload_n 0, 1) := by decide +kernel
theorem dX2_implies_23 : decode cX2_implies 23 = .ok (.iconst (-1), 1) := by decide +kernel
theorem dX2_implies_24 : decode cX2_implies 24 = .ok (.invokevirtual 40, 3) := by decide +kernel
theorem dX2_implies_27 : decode cX2_implies 27 = .ok (.ireturn, 1) := by decide +kernel
theorem dX2_implies_28 : decode cX2_implies 28 = .ok (.aload_n 0, 1) := by decide +kernel
theorem dX2_implies_29 : decode cX2_implies 29 = .ok (.getfield 10, 3) := by decide +kernel
theorem dX2_implies_32 : decode cX2_implies 32 = .ok (.invokevirtual 122, 3) := by decide +kernel
theorem dX2_implies_35 : decode cX2_implies 35 = .ok (.aload_n 0, 1) := by decide +kernel
theorem dX2_implies_36 : decode cX2_implies 36 = .ok (.getfield 10, 3) := by decide +kernel
theorem dX2_implies_39 : decode cX2_implies 39 = .ok (.iload_n 1, 1) := by decide +kernel
theorem dX2_implies_40 : decode cX2_implies 40 = .ok (.invokevirtual 188, 3) := by decide +kernel
theorem dX2_implies_43 : decode cX2_implies 43 = .ok (.land, 1) := by decide +kernel
theorem dX2_implies_44 : decode cX2_implies 44 = .ok (.aload_n 0, 1) := by decide +kernel
theorem dX2_implies_45 : decode cX2_implies 45 = .ok (.getfield 10, 3) := by decide +kernel
theorem dX2_implies_48 : decode cX2_implies 48 = .ok (.iload_n 2, 1) := by decide +kernel
theorem dX2_implies_49 : decode cX2_implies 49 = .ok (.invokevirtual 188, 3) := by decide +kernel
theorem dX2_implies_52 : decode cX2_implies 52 = .ok (.ldc2_w 158, 3) := by decide +kernel
theorem dX2_implies_55 : decode cX2_implies 55 = .ok (.lxor, 1) := by decide +kernel
theorem dX2_implies_56 : decode cX2_implies 56 = .ok (.land, 1) := by decide +kernel
theorem dX2_implies_57 : decode cX2_implies 57 = .ok (.lconst 0, 1) := by decide +kernel
theorem dX2_implies_58 : decode cX2_implies 58 = .ok (.lcmp, 1) := by decide +kernel
theorem dX2_implies_59 : decode cX2_implies 59 = .ok (.ifCond .ne 7, 3) := by decide +kernel
theorem dX2_implies_62 : decode cX2_implies 62 = .ok (.iconst 1, 1) := by decide +kernel
theorem dX2_implies_63 : decode cX2_implies 63 = .ok (.goto 4, 3) := by decide +kernel
theorem dX2_implies_66 : decode cX2_implies 66 = .ok (.iconst 0, 1) := by decide +kernel
theorem dX2_implies_67 : decode cX2_implies 67 = .ok (.ireturn, 1) := by decide +kernel
set_option maxRecDepth 20000 in
theorem ggX2_two_X0_hasWitness : GoodIn wsX2_two wsX0_hasWitness := goodIn_r _ [6, 7, 109, 110, 111, 112, 113, 114, 115, 116, 117, 118, 119, 120, 121, 122, 123, 124, 125] (by decide +kernel) (by decide +kernel)
set_option maxRecDepth 20000 in
theorem gX2_two_X0_hasWitness : GoodIn wsX2_two (wsV RX2 78 RX0 yX0_hasWitness wsX0_hasWitness) := goodIn_app (goodIn_of _ (by decide +kernel)) ggX2_two_X0_hasWitness
set_option maxRecDepth 20000 in
theorem ggX2_two_X0_hasQuestion : GoodIn wsX2_two wsX0_hasQuestion := goodIn_r _ [11, 12, 109, 110, 111, 112, 113, 114, 115, 116, 117, 118, 119, 120, 121, 122, 123, 124, 125] (by decide +kernel) (by decide +kernel)
set_option maxRecDepth 20000 in
theorem gX2_two_X0_hasQuestion : GoodIn wsX2_two (wsV RX2 63 RX0 yX0_hasQuestion wsX0_hasQuestion) := goodIn_app (goodIn_of _ (by decide +kernel)) ggX2_two_X0_hasQuestion
set_option maxRecDepth 20000 in
theorem ggX2_two_X2_refused : GoodIn wsX2_two wsX2_refused := goodIn_r _ [17, 18, 100, 101, 102, 103, 104, 105, 106, 107, 108] (by decide +kernel) (by decide +kernel)
set_option maxRecDepth 20000 in
theorem gX2_two_X2_refused : GoodIn wsX2_two (wsV RX2 40 RX2 yX2_refused wsX2_refused) := goodIn_app (goodIn_of _ (by decide +kernel)) ggX2_two_X2_refused
set_option maxRecDepth 20000 in
theorem ggX2_two_X2_settledPair : GoodIn wsX2_two wsX2_settledPair := goodIn_r _ [22, 1, 23, 24, 25, 5, 26, 27, 28, 29, 30, 31, 32, 33, 34, 35, 36, 37, 38, 39, 40, 41, 42, 43, 44, 45, 46, 47, 48, 49, 50, 3, 4, 6, 7, 51, 9, 10, 11, 12, 52, 53, 54, 55, 56, 57, 58, 59, 60, 61, 62, 63, 64, 65, 66, 67, 68, 69, 70, 71, 72, 73, 74, 75, 76, 77, 78, 79, 16, 80, 81, 82, 83, 84, 85, 86, 87, 88, 89, 90, 91, 92, 93, 94, 95, 96, 97, 98, 99, 100, 101, 102, 103, 104, 105, 106, 107, 108, 109, 110, 111, 112, 113, 114, 115, 116, 117, 118, 119, 120, 121, 122, 123, 124, 125] (by decide +kernel) (by decide +kernel)
set_option maxRecDepth 20000 in
theorem gX2_two_X2_settledPair : GoodIn wsX2_two (wsV RX2 191 RX2 yX2_settledPair wsX2_settledPair) := goodIn_app (goodIn_of _ (by decide +kernel)) ggX2_two_X2_settledPair
theorem dX2_two_0 : decode cX2_two 0 = .ok (.aload_n 0, 1) := by decide +kernel
theorem dX2_two_1 : decode cX2_two 1 = .ok (.getfield 10, 3) := by decide +kernel
theorem dX2_two_4 : decode cX2_two 4 = .ok (.iload_n 1, 1) := by decide +kernel
theorem dX2_two_5 : decode cX2_two 5 = .ok (.invokevirtual 78, 3) := by decide +kernel
theorem dX2_two_8 : decode cX2_two 8 = .ok (.ifCond .eq 25, 3) := by decide +kernel
theorem dX2_two_11 : decode cX2_two 11 = .ok (.aload_n 0, 1) := by decide +kernel
theorem dX2_two_12 : decode cX2_two 12 = .ok (.getfield 10, 3) := by decide +kernel
theorem dX2_two_15 : decode cX2_two 15 = .ok (.iload_n 2, 1) := by decide +kernel
theorem dX2_two_16 : decode cX2_two 16 = .ok (.invokevirtual 63, 3) := by decide +kernel
theorem dX2_two_19 : decode cX2_two 19 = .ok (.ifCond .eq 14, 3) := by decide +kernel
theorem dX2_two_22 : decode cX2_two 22 = .ok (.aload_n 0, 1) := by decide +kernel
theorem dX2_two_23 : decode cX2_two 23 = .ok (.getfield 10, 3) := by decide +kernel
theorem dX2_two_26 : decode cX2_two 26 = .ok (.iload_n 3, 1) := by decide +kernel
theorem dX2_two_27 : decode cX2_two 27 = .ok (.invokevirtual 63, 3) := by decide +kernel
theorem dX2_two_30 : decode cX2_two 30 = .ok (.ifCond .ne 9, 3) := by decide +kernel
theorem dX2_two_33 : decode cX2_two 33 = .ok (.aload_n 0, 1) := by decide +kernel
theorem dX2_two_34 : decode cX2_two 34 = .ok (.iconst (-1), 1) := by decide +kernel
theorem dX2_two_35 : decode cX2_two 35 = .ok (.invokevirtual 40, 3) := by decide +kernel
theorem dX2_two_38 : decode cX2_two 38 = .ok (.ireturn, 1) := by decide +kernel
theorem dX2_two_39 : decode cX2_two 39 = .ok (.aload_n 0, 1) := by decide +kernel
theorem dX2_two_40 : decode cX2_two 40 = .ok (.iload_n 1, 1) := by decide +kernel
theorem dX2_two_41 : decode cX2_two 41 = .ok (.iload_n 2, 1) := by decide +kernel
theorem dX2_two_42 : decode cX2_two 42 = .ok (.iload_n 3, 1) := by decide +kernel
theorem dX2_two_43 : decode cX2_two 43 = .ok (.invokevirtual 191, 3) := by decide +kernel
theorem dX2_two_46 : decode cX2_two 46 = .ok (.ireturn, 1) := by decide +kernel
set_option maxRecDepth 20000 in
theorem ggX2_drawn_X0_hasWitness : GoodIn wsX2_drawn wsX0_hasWitness := goodIn_r _ [8, 9, 125, 126, 127, 128, 129, 130, 131, 132, 133, 134, 135, 136, 137, 138, 139, 140, 141] (by decide +kernel) (by decide +kernel)
set_option maxRecDepth 20000 in
theorem gX2_drawn_X0_hasWitness : GoodIn wsX2_drawn (wsV RX2 78 RX0 yX0_hasWitness wsX0_hasWitness) := goodIn_app (goodIn_of _ (by decide +kernel)) ggX2_drawn_X0_hasWitness
set_option maxRecDepth 20000 in
theorem ggX2_drawn_X2_isFact : GoodIn wsX2_drawn wsX2_isFact := goodIn_r _ [13] (by decide +kernel) (by decide +kernel)
set_option maxRecDepth 20000 in
theorem gX2_drawn_X2_isFact : GoodIn wsX2_drawn (va_wsS RX2 56 yX2_isFact wsX2_isFact) := goodIn_app (goodIn_of _ (by decide +kernel)) ggX2_drawn_X2_isFact
set_option maxRecDepth 20000 in
theorem ggX2_drawn_X2_longRefused : GoodIn wsX2_drawn wsX2_longRefused := goodIn_r _ [17, 18, 19, 20, 21, 12, 22, 23, 116, 117, 118, 119, 120, 121, 122, 123, 124] (by decide +kernel) (by decide +kernel)
set_option maxRecDepth 20000 in
theorem gX2_drawn_X2_longRefused : GoodIn wsX2_drawn (wsV RX2 166 RX2 yX2_longRefused wsX2_longRefused) := goodIn_app (goodIn_of _ (by decide +kernel)) ggX2_drawn_X2_longRefused
set_option maxRecDepth 20000 in
theorem ggX2_drawn_X2_isPart : GoodIn wsX2_drawn wsX2_isPart := goodIn_r _ [26] (by decide +kernel) (by decide +kernel)
set_option maxRecDepth 20000 in
theorem gX2_drawn_X2_isPart : GoodIn wsX2_drawn (va_wsS RX2 119 yX2_isPart wsX2_isPart) := goodIn_app (goodIn_of _ (by decide +kernel)) ggX2_drawn_X2_isPart
set_option maxRecDepth 20000 in
theorem ggX2_drawn_X2_fillKept : GoodIn wsX2_drawn wsX2_fillKept := goodIn_r _ [30, 1, 2, 3, 31, 32, 33, 34, 7, 35, 36, 37, 38, 39, 40, 41, 42, 43, 44, 45, 46, 47, 5, 6, 8, 9, 48, 49, 50, 51, 52, 53, 54, 55, 56, 57, 58, 59, 60, 61, 62, 63, 64, 65, 66, 67, 68, 69, 70, 71, 72, 73, 12, 74, 75, 76, 77, 78, 79, 80, 81, 82, 116, 117, 118, 119, 120, 121, 122, 123, 124, 125, 126, 127, 128, 129, 130, 131, 132, 133, 134, 135, 136, 137, 138, 139, 140, 141] (by decide +kernel) (by decide +kernel)
set_option maxRecDepth 20000 in
theorem gX2_drawn_X2_fillKept : GoodIn wsX2_drawn (wsV RX2 194 RX2 yX2_fillKept wsX2_fillKept) := goodIn_app (goodIn_of _ (by decide +kernel)) ggX2_drawn_X2_fillKept
set_option maxRecDepth 20000 in
theorem ggX2_drawn_X0_fitting : GoodIn wsX2_drawn wsX0_fitting := goodIn_r _ [86, 46, 87, 88, 89, 90, 7, 91, 92, 93, 94, 95, 96, 97, 98, 99, 79, 80, 81, 82, 75, 76, 77, 78, 45, 47, 5, 6, 8, 9, 48, 49, 50, 51, 52, 65, 66, 67, 68, 57, 58, 59, 60, 61, 62, 63, 64, 53, 54, 55, 56, 69, 70, 71, 72, 41, 42, 43, 44, 125, 126, 127, 128, 129, 130, 131, 132, 133, 134, 135, 136, 137, 138, 139, 140, 141] (by decide +kernel) (by decide +kernel)
set_option maxRecDepth 20000 in
theorem gX2_drawn_X0_fitting : GoodIn wsX2_drawn (wsV RX2 122 RX0 yX0_fitting wsX0_fitting) := goodIn_app (goodIn_of _ (by decide +kernel)) ggX2_drawn_X0_fitting
set_option maxRecDepth 20000 in
theorem ggX2_drawn_X2_factCases : GoodIn wsX2_drawn wsX2_factCases := goodIn_r _ [102, 103, 10, 11, 12, 13] (by decide +kernel) (by decide +kernel)
set_option maxRecDepth 20000 in
theorem gX2_drawn_X2_factCases : GoodIn wsX2_drawn (va_wsS RX2 133 yX2_factCases wsX2_factCases) := goodIn_app (goodIn_of _ (by decide +kernel)) ggX2_drawn_X2_factCases
set_option maxRecDepth 20000 in
theorem ggX2_drawn_X2_waysSure : GoodIn wsX2_drawn wsX2_waysSure := goodIn_r _ [106, 107, 108, 12, 109, 104, 105] (by decide +kernel) (by decide +kernel)
set_option maxRecDepth 20000 in
theorem gX2_drawn_X2_waysSure : GoodIn wsX2_drawn (va_wsS RX2 198 yX2_waysSure wsX2_waysSure) := goodIn_app (goodIn_of _ (by decide +kernel)) ggX2_drawn_X2_waysSure
set_option maxRecDepth 20000 in
theorem ggX2_drawn_X2_inLeastTerms : GoodIn wsX2_drawn wsX2_inLeastTerms := goodIn_r _ [112, 113, 114, 12, 115] (by decide +kernel) (by decide +kernel)
set_option maxRecDepth 20000 in
theorem gX2_drawn_X2_inLeastTerms : GoodIn wsX2_drawn (va_wsS RX2 175 yX2_inLeastTerms wsX2_inLeastTerms) := goodIn_app (goodIn_of _ (by decide +kernel)) ggX2_drawn_X2_inLeastTerms
theorem dX2_drawn_0 : decode cX2_drawn 0 = .ok (.aload_n 0, 1) := by decide +kernel
theorem dX2_drawn_1 : decode cX2_drawn 1 = .ok (.getfield 10, 3) := by decide +kernel
theorem dX2_drawn_4 : decode cX2_drawn 4 = .ok (.iload_n 1, 1) := by decide +kernel
theorem dX2_drawn_5 : decode cX2_drawn 5 = .ok (.invokevirtual 78, 3) := by decide +kernel
theorem dX2_drawn_8 : decode cX2_drawn 8 = .ok (.ifCond .eq 10, 3) := by decide +kernel
theorem dX2_drawn_11 : decode cX2_drawn 11 = .ok (.iload_n 3, 1) := by decide +kernel
theorem dX2_drawn_12 : decode cX2_drawn 12 = .ok (.invokestatic 56, 3) := by decide +kernel
theorem dX2_drawn_15 : decode cX2_drawn 15 = .ok (.ifCond .ne 9, 3) := by decide +kernel
theorem dX2_drawn_18 : decode cX2_drawn 18 = .ok (.aload_n 0, 1) := by decide +kernel
theorem dX2_drawn_19 : decode cX2_drawn 19 = .ok (.iconst (-1), 1) := by decide +kernel
theorem dX2_drawn_20 : decode cX2_drawn 20 = .ok (.invokevirtual 166, 3) := by decide +kernel
theorem dX2_drawn_23 : decode cX2_drawn 23 = .ok (.lreturn, 1) := by decide +kernel
theorem dX2_drawn_24 : decode cX2_drawn 24 = .ok (.iload_n 2, 1) := by decide +kernel
theorem dX2_drawn_25 : decode cX2_drawn 25 = .ok (.ifCond .ge 10, 3) := by decide +kernel
theorem dX2_drawn_28 : decode cX2_drawn 28 = .ok (.aload_n 0, 1) := by decide +kernel
theorem dX2_drawn_29 : decode cX2_drawn 29 = .ok (.bipush (-4), 2) := by decide +kernel
theorem dX2_drawn_31 : decode cX2_drawn 31 = .ok (.invokevirtual 166, 3) := by decide +kernel
theorem dX2_drawn_34 : decode cX2_drawn 34 = .ok (.lreturn, 1) := by decide +kernel
theorem dX2_drawn_35 : decode cX2_drawn 35 = .ok (.iload_n 2, 1) := by decide +kernel
theorem dX2_drawn_36 : decode cX2_drawn 36 = .ok (.iconst 4, 1) := by decide +kernel
theorem dX2_drawn_37 : decode cX2_drawn 37 = .ok (.if_icmp .le 10, 3) := by decide +kernel
theorem dX2_drawn_40 : decode cX2_drawn 40 = .ok (.aload_n 0, 1) := by decide +kernel
theorem dX2_drawn_41 : decode cX2_drawn 41 = .ok (.bipush (-6), 2) := by decide +kernel
theorem dX2_drawn_43 : decode cX2_drawn 43 = .ok (.invokevirtual 166, 3) := by decide +kernel
theorem dX2_drawn_46 : decode cX2_drawn 46 = .ok (.lreturn, 1) := by decide +kernel
theorem dX2_drawn_47 : decode cX2_drawn 47 = .ok (.iload 4, 2) := by decide +kernel
theorem dX2_drawn_49 : decode cX2_drawn 49 = .ok (.invokestatic 119, 3) := by decide +kernel
theorem dX2_drawn_52 : decode cX2_drawn 52 = .ok (.ifCond .ne 10, 3) := by decide +kernel
theorem dX2_drawn_55 : decode cX2_drawn 55 = .ok (.aload_n 0, 1) := by decide +kernel
theorem dX2_drawn_56 : decode cX2_drawn 56 = .ok (.bipush (-2), 2) := by decide +kernel
theorem dX2_drawn_58 : decode cX2_drawn 58 = .ok (.invokevirtual 166, 3) := by decide +kernel
theorem dX2_drawn_61 : decode cX2_drawn 61 = .ok (.lreturn, 1) := by decide +kernel
theorem dX2_drawn_62 : decode cX2_drawn 62 = .ok (.aload_n 0, 1) := by decide +kernel
theorem dX2_drawn_63 : decode cX2_drawn 63 = .ok (.getfield 10, 3) := by decide +kernel
theorem dX2_drawn_66 : decode cX2_drawn 66 = .ok (.getfield 179, 3) := by decide +kernel
theorem dX2_drawn_69 : decode cX2_drawn 69 = .ok (.ifCond .ne 10, 3) := by decide +kernel
theorem dX2_drawn_72 : decode cX2_drawn 72 = .ok (.aload_n 0, 1) := by decide +kernel
theorem dX2_drawn_73 : decode cX2_drawn 73 = .ok (.bipush (-3), 2) := by decide +kernel
theorem dX2_drawn_75 : decode cX2_drawn 75 = .ok (.invokevirtual 166, 3) := by decide +kernel
theorem dX2_drawn_78 : decode cX2_drawn 78 = .ok (.lreturn, 1) := by decide +kernel
theorem dX2_drawn_79 : decode cX2_drawn 79 = .ok (.aload_n 0, 1) := by decide +kernel
theorem dX2_drawn_80 : decode cX2_drawn 80 = .ok (.iload_n 1, 1) := by decide +kernel
theorem dX2_drawn_81 : decode cX2_drawn 81 = .ok (.invokevirtual 194, 3) := by decide +kernel
theorem dX2_drawn_84 : decode cX2_drawn 84 = .ok (.iconst 1, 1) := by decide +kernel
theorem dX2_drawn_85 : decode cX2_drawn 85 = .ok (.istore 5, 2) := by decide +kernel
theorem dX2_drawn_87 : decode cX2_drawn 87 = .ok (.iconst 0, 1) := by decide +kernel
theorem dX2_drawn_88 : decode cX2_drawn 88 = .ok (.istore 6, 2) := by decide +kernel
theorem dX2_drawn_90 : decode cX2_drawn 90 = .ok (.iload 6, 2) := by decide +kernel
theorem dX2_drawn_92 : decode cX2_drawn 92 = .ok (.iload_n 2, 1) := by decide +kernel
theorem dX2_drawn_93 : decode cX2_drawn 93 = .ok (.if_icmp .ge 21, 3) := by decide +kernel
theorem dX2_drawn_96 : decode cX2_drawn 96 = .ok (.iload 5, 2) := by decide +kernel
theorem dX2_drawn_98 : decode cX2_drawn 98 = .ok (.aload_n 0, 1) := by decide +kernel
theorem dX2_drawn_99 : decode cX2_drawn 99 = .ok (.getfield 10, 3) := by decide +kernel
theorem dX2_drawn_102 : decode cX2_drawn 102 = .ok (.getfield 179, 3) := by decide +kernel
theorem dX2_drawn_105 : decode cX2_drawn 105 = .ok (.imul, 1) := by decide +kernel
theorem dX2_drawn_106 : decode cX2_drawn 106 = .ok (.istore 5, 2) := by decide +kernel
theorem dX2_drawn_108 : decode cX2_drawn 108 = .ok (.iinc 6 1, 3) := by decide +kernel
theorem dX2_drawn_111 : decode cX2_drawn 111 = .ok (.goto (-21), 3) := by decide +kernel
theorem dX2_drawn_114 : decode cX2_drawn 114 = .ok (.aload_n 0, 1) := by decide +kernel
theorem dX2_drawn_115 : decode cX2_drawn 115 = .ok (.getfield 36, 3) := by decide +kernel
theorem dX2_drawn_118 : decode cX2_drawn 118 = .ok (.aload_n 0, 1) := by decide +kernel
theorem dX2_drawn_119 : decode cX2_drawn 119 = .ok (.getfield 10, 3) := by decide +kernel
theorem dX2_drawn_122 : decode cX2_drawn 122 = .ok (.getfield 179, 3) := by decide +kernel
theorem dX2_drawn_125 : decode cX2_drawn 125 = .ok (.aload_n 0, 1) := by decide +kernel
theorem dX2_drawn_126 : decode cX2_drawn 126 = .ok (.getfield 10, 3) := by decide +kernel
theorem dX2_drawn_129 : decode cX2_drawn 129 = .ok (.invokevirtual 122, 3) := by decide +kernel
theorem dX2_drawn_132 : decode cX2_drawn 132 = .ok (.iload_n 3, 1) := by decide +kernel
theorem dX2_drawn_133 : decode cX2_drawn 133 = .ok (.invokestatic 133, 3) := by decide +kernel
theorem dX2_drawn_136 : decode cX2_drawn 136 = .ok (.iconst 0, 1) := by decide +kernel
theorem dX2_drawn_137 : decode cX2_drawn 137 = .ok (.iload_n 2, 1) := by decide +kernel
theorem dX2_drawn_138 : decode cX2_drawn 138 = .ok (.invokestatic 198, 3) := by decide +kernel
theorem dX2_drawn_141 : decode cX2_drawn 141 = .ok (.istore 6, 2) := by decide +kernel
theorem dX2_drawn_143 : decode cX2_drawn 143 = .ok (.iload 6, 2) := by decide +kernel
theorem dX2_drawn_145 : decode cX2_drawn 145 = .ok (.iload 5, 2) := by decide +kernel
theorem dX2_drawn_147 : decode cX2_drawn 147 = .ok (.iload 4, 2) := by decide +kernel
theorem dX2_drawn_149 : decode cX2_drawn 149 = .ok (.invokestatic 175, 3) := by decide +kernel
theorem dX2_drawn_152 : decode cX2_drawn 152 = .ok (.lreturn, 1) := by decide +kernel
set_option maxRecDepth 20000 in
theorem ggX2_mean_X2_isPart : GoodIn wsX2_mean wsX2_isPart := goodIn_r _ [5] (by decide +kernel) (by decide +kernel)
set_option maxRecDepth 20000 in
theorem gX2_mean_X2_isPart : GoodIn wsX2_mean (va_wsS RX2 119 yX2_isPart wsX2_isPart) := goodIn_app (goodIn_of _ (by decide +kernel)) ggX2_mean_X2_isPart
set_option maxRecDepth 20000 in
theorem ggX2_mean_X2_longRefused : GoodIn wsX2_mean wsX2_longRefused := goodIn_r _ [9, 10, 11, 12, 13, 4, 14, 15, 98, 99, 100, 101, 102, 103, 104, 105, 106] (by decide +kernel) (by decide +kernel)
set_option maxRecDepth 20000 in
theorem gX2_mean_X2_longRefused : GoodIn wsX2_mean (wsV RX2 166 RX2 yX2_longRefused wsX2_longRefused) := goodIn_app (goodIn_of _ (by decide +kernel)) ggX2_mean_X2_longRefused
set_option maxRecDepth 20000 in
theorem ggX2_mean_X0_fitting : GoodIn wsX2_mean wsX0_fitting := goodIn_r _ [20, 21, 22, 23, 24, 25, 19, 26, 27, 28, 29, 30, 31, 32, 33, 34, 35, 36, 37, 38, 39, 40, 41, 42, 43, 44, 45, 46, 47, 48, 49, 50, 51, 52, 53, 54, 55, 56, 57, 58, 59, 60, 61, 62, 63, 64, 65, 66, 67, 68, 69, 70, 71, 72, 73, 74, 75, 76, 77, 107, 108, 109, 110, 111, 112, 113, 114, 115, 116, 117, 118, 119, 120, 121, 122, 123] (by decide +kernel) (by decide +kernel)
set_option maxRecDepth 20000 in
theorem gX2_mean_X0_fitting : GoodIn wsX2_mean (wsV RX2 122 RX0 yX0_fitting wsX0_fitting) := goodIn_app (goodIn_of _ (by decide +kernel)) ggX2_mean_X0_fitting
set_option maxRecDepth 20000 in
theorem ggX2_mean_X2_factCases : GoodIn wsX2_mean wsX2_factCases := goodIn_r _ [80, 81, 82, 83, 4, 84] (by decide +kernel) (by decide +kernel)
set_option maxRecDepth 20000 in
theorem gX2_mean_X2_factCases : GoodIn wsX2_mean (va_wsS RX2 133 yX2_factCases wsX2_factCases) := goodIn_app (goodIn_of _ (by decide +kernel)) ggX2_mean_X2_factCases
set_option maxRecDepth 20000 in
theorem ggX2_mean_J13_bitCount_95d88 : GoodIn wsX2_mean wsJ13_bitCount_95d88 := goodIn_r _ [88, 89, 90, 91] (by decide +kernel) (by decide +kernel)
set_option maxRecDepth 20000 in
theorem gX2_mean_J13_bitCount_95d88 : GoodIn wsX2_mean (va_wsS RX2 169 yJ13_bitCount_95d88 wsJ13_bitCount_95d88) := goodIn_app (goodIn_of _ (by decide +kernel)) ggX2_mean_J13_bitCount_95d88
set_option maxRecDepth 20000 in
theorem ggX2_mean_X2_inLeastTerms : GoodIn wsX2_mean wsX2_inLeastTerms := goodIn_r _ [94, 95, 96, 4, 97] (by decide +kernel) (by decide +kernel)
set_option maxRecDepth 20000 in
theorem gX2_mean_X2_inLeastTerms : GoodIn wsX2_mean (va_wsS RX2 175 yX2_inLeastTerms wsX2_inLeastTerms) := goodIn_app (goodIn_of _ (by decide +kernel)) ggX2_mean_X2_inLeastTerms
theorem dX2_mean_0 : decode cX2_mean 0 = .ok (.iload_n 1, 1) := by decide +kernel
theorem dX2_mean_1 : decode cX2_mean 1 = .ok (.invokestatic 119, 3) := by decide +kernel
theorem dX2_mean_4 : decode cX2_mean 4 = .ok (.ifCond .ne 10, 3) := by decide +kernel
theorem dX2_mean_7 : decode cX2_mean 7 = .ok (.aload_n 0, 1) := by decide +kernel
theorem dX2_mean_8 : decode cX2_mean 8 = .ok (.bipush (-2), 2) := by decide +kernel
theorem dX2_mean_10 : decode cX2_mean 10 = .ok (.invokevirtual 166, 3) := by decide +kernel
theorem dX2_mean_13 : decode cX2_mean 13 = .ok (.lreturn, 1) := by decide +kernel
theorem dX2_mean_14 : decode cX2_mean 14 = .ok (.aload_n 0, 1) := by decide +kernel
theorem dX2_mean_15 : decode cX2_mean 15 = .ok (.getfield 10, 3) := by decide +kernel
theorem dX2_mean_18 : decode cX2_mean 18 = .ok (.invokevirtual 122, 3) := by decide +kernel
theorem dX2_mean_21 : decode cX2_mean 21 = .ok (.lstore_n 2, 1) := by decide +kernel
theorem dX2_mean_22 : decode cX2_mean 22 = .ok (.iconst 0, 1) := by decide +kernel
theorem dX2_mean_23 : decode cX2_mean 23 = .ok (.istore 4, 2) := by decide +kernel
theorem dX2_mean_25 : decode cX2_mean 25 = .ok (.iconst 0, 1) := by decide +kernel
theorem dX2_mean_26 : decode cX2_mean 26 = .ok (.istore 5, 2) := by decide +kernel
theorem dX2_mean_28 : decode cX2_mean 28 = .ok (.iload 5, 2) := by decide +kernel
theorem dX2_mean_30 : decode cX2_mean 30 = .ok (.bipush 6, 2) := by decide +kernel
theorem dX2_mean_32 : decode cX2_mean 32 = .ok (.if_icmp .ge 24, 3) := by decide +kernel
theorem dX2_mean_35 : decode cX2_mean 35 = .ok (.iload 4, 2) := by decide +kernel
theorem dX2_mean_37 : decode cX2_mean 37 = .ok (.lload_n 2, 1) := by decide +kernel
theorem dX2_mean_38 : decode cX2_mean 38 = .ok (.iload 5, 2) := by decide +kernel
theorem dX2_mean_40 : decode cX2_mean 40 = .ok (.invokestatic 133, 3) := by decide +kernel
theorem dX2_mean_43 : decode cX2_mean 43 = .ok (.land, 1) := by decide +kernel
theorem dX2_mean_44 : decode cX2_mean 44 = .ok (.invokestatic 169, 3) := by decide +kernel
theorem dX2_mean_47 : decode cX2_mean 47 = .ok (.iadd, 1) := by decide +kernel
theorem dX2_mean_48 : decode cX2_mean 48 = .ok (.istore 4, 2) := by decide +kernel
theorem dX2_mean_50 : decode cX2_mean 50 = .ok (.iinc 5 1, 3) := by decide +kernel
theorem dX2_mean_53 : decode cX2_mean 53 = .ok (.goto (-25), 3) := by decide +kernel
theorem dX2_mean_56 : decode cX2_mean 56 = .ok (.iload 4, 2) := by decide +kernel
theorem dX2_mean_58 : decode cX2_mean 58 = .ok (.lload_n 2, 1) := by decide +kernel
theorem dX2_mean_59 : decode cX2_mean 59 = .ok (.invokestatic 169, 3) := by decide +kernel
theorem dX2_mean_62 : decode cX2_mean 62 = .ok (.iload_n 1, 1) := by decide +kernel
theorem dX2_mean_63 : decode cX2_mean 63 = .ok (.invokestatic 175, 3) := by decide +kernel
theorem dX2_mean_66 : decode cX2_mean 66 = .ok (.lreturn, 1) := by decide +kernel
set_option maxRecDepth 20000 in
theorem ggX2_whatIs_X0_hasWitness : GoodIn wsX2_whatIs wsX0_hasWitness := goodIn_r _ [8, 9, 106, 107, 108, 109, 110, 111, 112, 113, 114, 115, 116, 117, 118, 119, 120, 121, 122] (by decide +kernel) (by decide +kernel)
set_option maxRecDepth 20000 in
theorem gX2_whatIs_X0_hasWitness : GoodIn wsX2_whatIs (wsV RX2 78 RX0 yX0_hasWitness wsX0_hasWitness) := goodIn_app (goodIn_of _ (by decide +kernel)) ggX2_whatIs_X0_hasWitness
set_option maxRecDepth 20000 in
theorem ggX2_whatIs_X2_refused : GoodIn wsX2_whatIs wsX2_refused := goodIn_r _ [14, 15, 97, 98, 99, 100, 101, 102, 103, 104, 105] (by decide +kernel) (by decide +kernel)
set_option maxRecDepth 20000 in
theorem gX2_whatIs_X2_refused : GoodIn wsX2_whatIs (wsV RX2 40 RX2 yX2_refused wsX2_refused) := goodIn_app (goodIn_of _ (by decide +kernel)) ggX2_whatIs_X2_refused
set_option maxRecDepth 20000 in
theorem ggX2_whatIs_X2_isPart : GoodIn wsX2_whatIs wsX2_isPart := goodIn_r _ [18] (by decide +kernel) (by decide +kernel)
set_option maxRecDepth 20000 in
theorem gX2_whatIs_X2_isPart : GoodIn wsX2_whatIs (va_wsS RX2 119 yX2_isPart wsX2_isPart) := goodIn_app (goodIn_of _ (by decide +kernel)) ggX2_whatIs_X2_isPart
set_option maxRecDepth 20000 in
theorem ggX2_whatIs_X2_kindsByRow : GoodIn wsX2_whatIs wsX2_kindsByRow := goodIn_r _ [22, 23, 1, 24, 25, 26, 27, 7, 28, 29, 30, 31, 9, 32, 33, 34, 35, 36, 37, 38, 39, 40, 41, 42, 43, 44, 45, 46, 47, 48, 49, 50, 51, 13, 52, 2, 53, 54, 55, 56, 57, 58, 59, 60, 61, 62, 63, 64, 65, 5, 6, 8, 66, 67, 68, 69, 70, 71, 72, 73, 74, 75, 76, 77, 78, 79, 80, 81, 82, 83, 84, 85, 86, 87, 88, 89, 90, 91, 97, 98, 99, 100, 101, 102, 103, 104, 105, 106, 107, 108, 109, 110, 111, 112, 113, 114, 115, 116, 117, 118, 119, 120, 121, 122] (by decide +kernel) (by decide +kernel)
set_option maxRecDepth 20000 in
theorem gX2_whatIs_X2_kindsByRow : GoodIn wsX2_whatIs (wsV RX2 205 RX2 yX2_kindsByRow wsX2_kindsByRow) := goodIn_app (goodIn_of _ (by decide +kernel)) ggX2_whatIs_X2_kindsByRow
set_option maxRecDepth 20000 in
theorem ggX2_whatIs_X2_knownByRow : GoodIn wsX2_whatIs wsX2_knownByRow := goodIn_r _ [95, 23, 1, 96, 25, 26, 27, 7, 28, 29, 30, 31, 9, 32, 33, 34, 35, 36, 37, 38, 39, 40, 41, 42, 43, 44, 45, 46, 47, 48, 49, 50, 51, 13, 52, 2, 53, 54, 55, 56, 57, 58, 59, 60, 61, 62, 63, 64, 65, 5, 6, 8, 66, 67, 68, 69, 70, 71, 72, 73, 74, 75, 76, 77, 78, 79, 80, 81, 82, 83, 84, 85, 86, 87, 88, 89, 90, 91, 97, 98, 99, 100, 101, 102, 103, 104, 105, 106, 107, 108, 109, 110, 111, 112, 113, 114, 115, 116, 117, 118, 119, 120, 121, 122] (by decide +kernel) (by decide +kernel)
set_option maxRecDepth 20000 in
theorem gX2_whatIs_X2_knownByRow : GoodIn wsX2_whatIs (wsV RX2 208 RX2 yX2_knownByRow wsX2_knownByRow) := goodIn_app (goodIn_of _ (by decide +kernel)) ggX2_whatIs_X2_knownByRow
theorem dX2_whatIs_0 : decode cX2_whatIs 0 = .ok (.aload_n 0, 1) := by decide +kernel
theorem dX2_whatIs_1 : decode cX2_whatIs 1 = .ok (.getfield 10, 3) := by decide +kernel
theorem dX2_whatIs_4 : decode cX2_whatIs 4 = .ok (.iload_n 1, 1) := by decide +kernel
theorem dX2_whatIs_5 : decode cX2_whatIs 5 = .ok (.invokevirtual 78, 3) := by decide +kernel
theorem dX2_whatIs_8 : decode cX2_whatIs 8 = .ok (.ifCond .ne 9, 3) := by decide +kernel
theorem dX2_whatIs_11 : decode cX2_whatIs 11 = .ok (.aload_n 0, 1) := by decide +kernel
theorem dX2_whatIs_12 : decode cX2_whatIs 12 = .ok (.iconst (-1), 1) := by decide +kernel
theorem dX2_whatIs_13 : decode cX2_whatIs 13 = .ok (.invokevirtual 40, 3) := by decide +kernel
theorem dX2_whatIs_16 : decode cX2_whatIs 16 = .ok (.ireturn, 1) := by decide +kernel
theorem dX2_whatIs_17 : decode cX2_whatIs 17 = .ok (.iload_n 2, 1) := by decide +kernel
theorem dX2_whatIs_18 : decode cX2_whatIs 18 = .ok (.invokestatic 119, 3) := by decide +kernel
theorem dX2_whatIs_21 : decode cX2_whatIs 21 = .ok (.ifCond .ne 10, 3) := by decide +kernel
theorem dX2_whatIs_24 : decode cX2_whatIs 24 = .ok (.aload_n 0, 1) := by decide +kernel
theorem dX2_whatIs_25 : decode cX2_whatIs 25 = .ok (.bipush (-2), 2) := by decide +kernel
theorem dX2_whatIs_27 : decode cX2_whatIs 27 = .ok (.invokevirtual 40, 3) := by decide +kernel
theorem dX2_whatIs_30 : decode cX2_whatIs 30 = .ok (.ireturn, 1) := by decide +kernel
theorem dX2_whatIs_31 : decode cX2_whatIs 31 = .ok (.aload_n 0, 1) := by decide +kernel
theorem dX2_whatIs_32 : decode cX2_whatIs 32 = .ok (.getfield 202, 3) := by decide +kernel
theorem dX2_whatIs_35 : decode cX2_whatIs 35 = .ok (.aload_n 0, 1) := by decide +kernel
theorem dX2_whatIs_36 : decode cX2_whatIs 36 = .ok (.getfield 10, 3) := by decide +kernel
theorem dX2_whatIs_39 : decode cX2_whatIs 39 = .ok (.getfield 179, 3) := by decide +kernel
theorem dX2_whatIs_42 : decode cX2_whatIs 42 = .ok (.if_icmp .le 10, 3) := by decide +kernel
theorem dX2_whatIs_45 : decode cX2_whatIs 45 = .ok (.aload_n 0, 1) := by decide +kernel
theorem dX2_whatIs_46 : decode cX2_whatIs 46 = .ok (.bipush (-3), 2) := by decide +kernel
theorem dX2_whatIs_48 : decode cX2_whatIs 48 = .ok (.invokevirtual 40, 3) := by decide +kernel
theorem dX2_whatIs_51 : decode cX2_whatIs 51 = .ok (.ireturn, 1) := by decide +kernel
theorem dX2_whatIs_52 : decode cX2_whatIs 52 = .ok (.iload_n 2, 1) := by decide +kernel
theorem dX2_whatIs_53 : decode cX2_whatIs 53 = .ok (.ifCond .ne 11, 3) := by decide +kernel
theorem dX2_whatIs_56 : decode cX2_whatIs 56 = .ok (.aload_n 0, 1) := by decide +kernel
theorem dX2_whatIs_57 : decode cX2_whatIs 57 = .ok (.iload_n 1, 1) := by decide +kernel
theorem dX2_whatIs_58 : decode cX2_whatIs 58 = .ok (.invokevirtual 205, 3) := by decide +kernel
theorem dX2_whatIs_61 : decode cX2_whatIs 61 = .ok (.goto 8, 3) := by decide +kernel
theorem dX2_whatIs_64 : decode cX2_whatIs 64 = .ok (.aload_n 0, 1) := by decide +kernel
theorem dX2_whatIs_65 : decode cX2_whatIs 65 = .ok (.iload_n 1, 1) := by decide +kernel
theorem dX2_whatIs_66 : decode cX2_whatIs 66 = .ok (.invokevirtual 208, 3) := by decide +kernel
theorem dX2_whatIs_69 : decode cX2_whatIs 69 = .ok (.ireturn, 1) := by decide +kernel
set_option maxRecDepth 20000 in
theorem ggX2_row_X2_refused : GoodIn wsX2_row wsX2_refused := goodIn_r _ [7, 8, 9, 10, 11, 12, 13, 14, 15, 16, 17] (by decide +kernel) (by decide +kernel)
set_option maxRecDepth 20000 in
theorem gX2_row_X2_refused : GoodIn wsX2_row (wsV RX2 40 RX2 yX2_refused wsX2_refused) := goodIn_app (goodIn_of _ (by decide +kernel)) ggX2_row_X2_refused
theorem dX2_row_0 : decode cX2_row 0 = .ok (.iload_n 1, 1) := by decide +kernel
theorem dX2_row_1 : decode cX2_row 1 = .ok (.ifCond .ge 10, 3) := by decide +kernel
theorem dX2_row_4 : decode cX2_row 4 = .ok (.aload_n 0, 1) := by decide +kernel
theorem dX2_row_5 : decode cX2_row 5 = .ok (.bipush (-4), 2) := by decide +kernel
theorem dX2_row_7 : decode cX2_row 7 = .ok (.invokevirtual 40, 3) := by decide +kernel
theorem dX2_row_10 : decode cX2_row 10 = .ok (.ireturn, 1) := by decide +kernel
theorem dX2_row_11 : decode cX2_row 11 = .ok (.iload_n 1, 1) := by decide +kernel
theorem dX2_row_12 : decode cX2_row 12 = .ok (.bipush 99, 2) := by decide +kernel
theorem dX2_row_14 : decode cX2_row 14 = .ok (.if_icmp .gt 12, 3) := by decide +kernel
theorem dX2_row_17 : decode cX2_row 17 = .ok (.aload_n 0, 1) := by decide +kernel
theorem dX2_row_18 : decode cX2_row 18 = .ok (.getfield 202, 3) := by decide +kernel
theorem dX2_row_21 : decode cX2_row 21 = .ok (.bipush 12, 2) := by decide +kernel
theorem dX2_row_23 : decode cX2_row 23 = .ok (.if_icmp .lt 10, 3) := by decide +kernel
theorem dX2_row_26 : decode cX2_row 26 = .ok (.aload_n 0, 1) := by decide +kernel
theorem dX2_row_27 : decode cX2_row 27 = .ok (.bipush (-6), 2) := by decide +kernel
theorem dX2_row_29 : decode cX2_row 29 = .ok (.invokevirtual 40, 3) := by decide +kernel
theorem dX2_row_32 : decode cX2_row 32 = .ok (.ireturn, 1) := by decide +kernel
theorem dX2_row_33 : decode cX2_row 33 = .ok (.aload_n 0, 1) := by decide +kernel
theorem dX2_row_34 : decode cX2_row 34 = .ok (.getfield 29, 3) := by decide +kernel
theorem dX2_row_37 : decode cX2_row 37 = .ok (.aload_n 0, 1) := by decide +kernel
theorem dX2_row_38 : decode cX2_row 38 = .ok (.getfield 202, 3) := by decide +kernel
theorem dX2_row_41 : decode cX2_row 41 = .ok (.iload_n 1, 1) := by decide +kernel
theorem dX2_row_42 : decode cX2_row 42 = .ok (.iastore, 1) := by decide +kernel
theorem dX2_row_43 : decode cX2_row 43 = .ok (.aload_n 0, 1) := by decide +kernel
theorem dX2_row_44 : decode cX2_row 44 = .ok (.dup, 1) := by decide +kernel
theorem dX2_row_45 : decode cX2_row 45 = .ok (.getfield 202, 3) := by decide +kernel
theorem dX2_row_48 : decode cX2_row 48 = .ok (.iconst 1, 1) := by decide +kernel
theorem dX2_row_49 : decode cX2_row 49 = .ok (.iadd, 1) := by decide +kernel
theorem dX2_row_50 : decode cX2_row 50 = .ok (.putfield 202, 3) := by decide +kernel
theorem dX2_row_53 : decode cX2_row 53 = .ok (.aload_n 0, 1) := by decide +kernel
theorem dX2_row_54 : decode cX2_row 54 = .ok (.getfield 202, 3) := by decide +kernel
theorem dX2_row_57 : decode cX2_row 57 = .ok (.ireturn, 1) := by decide +kernel
set_option maxRecDepth 20000 in
theorem ggX2_judge_X2_firstWrongInRow : GoodIn wsX2_judge wsX2_firstWrongInRow := goodIn_r _ [6, 1, 7, 8, 9, 10, 11, 12, 13, 14, 15, 16, 17, 18, 19, 20, 21, 22, 23, 24, 25, 26, 27, 28, 29, 30, 31, 32, 33, 34, 35, 36, 37, 38, 39, 40, 41] (by decide +kernel) (by decide +kernel)
set_option maxRecDepth 20000 in
theorem gX2_judge_X2_firstWrongInRow : GoodIn wsX2_judge (wsV RX2 211 RX2 yX2_firstWrongInRow wsX2_firstWrongInRow) := goodIn_app (goodIn_of _ (by decide +kernel)) ggX2_judge_X2_firstWrongInRow
theorem dX2_judge_0 : decode cX2_judge 0 = .ok (.aload_n 0, 1) := by decide +kernel
theorem dX2_judge_1 : decode cX2_judge 1 = .ok (.invokevirtual 211, 3) := by decide +kernel
theorem dX2_judge_4 : decode cX2_judge 4 = .ok (.istore_n 1, 1) := by decide +kernel
theorem dX2_judge_5 : decode cX2_judge 5 = .ok (.aload_n 0, 1) := by decide +kernel
theorem dX2_judge_6 : decode cX2_judge 6 = .ok (.iconst 0, 1) := by decide +kernel
theorem dX2_judge_7 : decode cX2_judge 7 = .ok (.putfield 202, 3) := by decide +kernel
theorem dX2_judge_10 : decode cX2_judge 10 = .ok (.iload_n 1, 1) := by decide +kernel
theorem dX2_judge_11 : decode cX2_judge 11 = .ok (.ireturn, 1) := by decide +kernel
theorem dX2_clear_0 : decode cX2_clear 0 = .ok (.aload_n 0, 1) := by decide +kernel
theorem dX2_clear_1 : decode cX2_clear 1 = .ok (.getfield 202, 3) := by decide +kernel
theorem dX2_clear_4 : decode cX2_clear 4 = .ok (.istore_n 1, 1) := by decide +kernel
theorem dX2_clear_5 : decode cX2_clear 5 = .ok (.aload_n 0, 1) := by decide +kernel
theorem dX2_clear_6 : decode cX2_clear 6 = .ok (.iconst 0, 1) := by decide +kernel
theorem dX2_clear_7 : decode cX2_clear 7 = .ok (.putfield 202, 3) := by decide +kernel
theorem dX2_clear_10 : decode cX2_clear 10 = .ok (.iload_n 1, 1) := by decide +kernel
theorem dX2_clear_11 : decode cX2_clear 11 = .ok (.ireturn, 1) := by decide +kernel
set_option maxRecDepth 20000 in
theorem ggX2_lots_X2_refused : GoodIn wsX2_lots wsX2_refused := goodIn_r _ [8, 9, 123, 124, 125, 126, 127, 128, 129, 130, 131] (by decide +kernel) (by decide +kernel)
set_option maxRecDepth 20000 in
theorem gX2_lots_X2_refused : GoodIn wsX2_lots (wsV RX2 40 RX2 yX2_refused wsX2_refused) := goodIn_app (goodIn_of _ (by decide +kernel)) ggX2_lots_X2_refused
set_option maxRecDepth 20000 in
theorem ggX2_lots_X2_isPart : GoodIn wsX2_lots wsX2_isPart := goodIn_r _ [12] (by decide +kernel) (by decide +kernel)
set_option maxRecDepth 20000 in
theorem gX2_lots_X2_isPart : GoodIn wsX2_lots (va_wsS RX2 119 yX2_isPart wsX2_isPart) := goodIn_app (goodIn_of _ (by decide +kernel)) ggX2_lots_X2_isPart
set_option maxRecDepth 20000 in
theorem ggX2_lots_X2_sessions : GoodIn wsX2_lots wsX2_sessions := goodIn_r _ [16, 17, 1, 2, 3, 18, 19, 20, 21, 22, 23, 24, 25, 26, 27, 28, 29, 30, 31, 32, 33, 34, 35, 36, 37, 38, 39, 40, 41, 42, 43, 44, 45, 7, 46, 47, 48, 49, 50, 51, 52, 53, 54, 55, 56, 57, 58, 59, 60, 61, 62, 63, 64, 65, 66, 67, 68, 69, 70, 71, 72, 73, 74, 75, 76, 77, 78, 79, 80, 81, 82, 83, 84, 85, 86, 87, 88, 89, 90, 91, 92, 93, 94, 95, 96, 97, 98, 99, 100, 101, 102, 103, 104, 105, 106, 107, 108, 109, 110, 111, 112, 113, 114, 115, 116, 117, 118, 119, 120, 121, 122, 123, 124, 125, 126, 127, 128, 129, 130, 131, 132, 133, 134, 135, 136, 137, 138, 139, 140, 141, 142, 143, 144, 145, 146, 147, 148] (by decide +kernel) (by decide +kernel)
set_option maxRecDepth 20000 in
theorem gX2_lots_X2_sessions : GoodIn wsX2_lots (wsV RX2 214 RX2 yX2_sessions wsX2_sessions) := goodIn_app (goodIn_of _ (by decide +kernel)) ggX2_lots_X2_sessions
theorem dX2_lots_0 : decode cX2_lots 0 = .ok (.iload_n 1, 1) := by decide +kernel
theorem dX2_lots_1 : decode cX2_lots 1 = .ok (.iconst 1, 1) := by decide +kernel
theorem dX2_lots_2 : decode cX2_lots 2 = .ok (.if_icmp .ge 10, 3) := by decide +kernel
theorem dX2_lots_5 : decode cX2_lots 5 = .ok (.aload_n 0, 1) := by decide +kernel
theorem dX2_lots_6 : decode cX2_lots 6 = .ok (.bipush (-4), 2) := by decide +kernel
theorem dX2_lots_8 : decode cX2_lots 8 = .ok (.invokevirtual 40, 3) := by decide +kernel
theorem dX2_lots_11 : decode cX2_lots 11 = .ok (.ireturn, 1) := by decide +kernel
theorem dX2_lots_12 : decode cX2_lots 12 = .ok (.iload_n 1, 1) := by decide +kernel
theorem dX2_lots_13 : decode cX2_lots 13 = .ok (.bipush 20, 2) := by decide +kernel
theorem dX2_lots_15 : decode cX2_lots 15 = .ok (.if_icmp .le 10, 3) := by decide +kernel
theorem dX2_lots_18 : decode cX2_lots 18 = .ok (.aload_n 0, 1) := by decide +kernel
theorem dX2_lots_19 : decode cX2_lots 19 = .ok (.bipush (-6), 2) := by decide +kernel
theorem dX2_lots_21 : decode cX2_lots 21 = .ok (.invokevirtual 40, 3) := by decide +kernel
theorem dX2_lots_24 : decode cX2_lots 24 = .ok (.ireturn, 1) := by decide +kernel
theorem dX2_lots_25 : decode cX2_lots 25 = .ok (.iload_n 3, 1) := by decide +kernel
theorem dX2_lots_26 : decode cX2_lots 26 = .ok (.invokestatic 119, 3) := by decide +kernel
theorem dX2_lots_29 : decode cX2_lots 29 = .ok (.ifCond .ne 10, 3) := by decide +kernel
theorem dX2_lots_32 : decode cX2_lots 32 = .ok (.aload_n 0, 1) := by decide +kernel
theorem dX2_lots_33 : decode cX2_lots 33 = .ok (.bipush (-2), 2) := by decide +kernel
theorem dX2_lots_35 : decode cX2_lots 35 = .ok (.invokevirtual 40, 3) := by decide +kernel
theorem dX2_lots_38 : decode cX2_lots 38 = .ok (.ireturn, 1) := by decide +kernel
theorem dX2_lots_39 : decode cX2_lots 39 = .ok (.aload_n 0, 1) := by decide +kernel
theorem dX2_lots_40 : decode cX2_lots 40 = .ok (.getfield 10, 3) := by decide +kernel
theorem dX2_lots_43 : decode cX2_lots 43 = .ok (.getfield 152, 3) := by decide +kernel
theorem dX2_lots_46 : decode cX2_lots 46 = .ok (.ifCond .eq 13, 3) := by decide +kernel
theorem dX2_lots_49 : decode cX2_lots 49 = .ok (.aload_n 0, 1) := by decide +kernel
theorem dX2_lots_50 : decode cX2_lots 50 = .ok (.getfield 10, 3) := by decide +kernel
theorem dX2_lots_53 : decode cX2_lots 53 = .ok (.getfield 179, 3) := by decide +kernel
theorem dX2_lots_56 : decode cX2_lots 56 = .ok (.ifCond .ne 10, 3) := by decide +kernel
theorem dX2_lots_59 : decode cX2_lots 59 = .ok (.aload_n 0, 1) := by decide +kernel
theorem dX2_lots_60 : decode cX2_lots 60 = .ok (.bipush (-3), 2) := by decide +kernel
theorem dX2_lots_62 : decode cX2_lots 62 = .ok (.invokevirtual 40, 3) := by decide +kernel
theorem dX2_lots_65 : decode cX2_lots 65 = .ok (.ireturn, 1) := by decide +kernel
theorem dX2_lots_66 : decode cX2_lots 66 = .ok (.aload_n 0, 1) := by decide +kernel
theorem dX2_lots_67 : decode cX2_lots 67 = .ok (.iload_n 1, 1) := by decide +kernel
theorem dX2_lots_68 : decode cX2_lots 68 = .ok (.iload_n 2, 1) := by decide +kernel
theorem dX2_lots_69 : decode cX2_lots 69 = .ok (.iload_n 3, 1) := by decide +kernel
theorem dX2_lots_70 : decode cX2_lots 70 = .ok (.invokevirtual 214, 3) := by decide +kernel
theorem dX2_lots_73 : decode cX2_lots 73 = .ok (.ireturn, 1) := by decide +kernel
set_option maxRecDepth 20000 in
theorem ggX2_image_X0_becomes : GoodIn wsX2_image wsX0_becomes := goodIn_r _ [9, 10, 11, 12, 13, 14, 15, 16, 17, 18, 19, 20, 21, 22, 23, 24, 25, 26, 27, 28, 29, 30, 40, 41, 42, 43, 44, 45, 46, 47, 48, 49, 50, 51, 52, 53, 54, 55, 56] (by decide +kernel) (by decide +kernel)
set_option maxRecDepth 20000 in
theorem gX2_image_X0_becomes : GoodIn wsX2_image (wsV RX2 217 RX0 yX0_becomes wsX0_becomes) := goodIn_app (goodIn_of _ (by decide +kernel)) ggX2_image_X0_becomes
theorem dX2_image_0 : decode cX2_image 0 = .ok (.aload_n 0, 1) := by decide +kernel
theorem dX2_image_1 : decode cX2_image 1 = .ok (.getfield 16, 3) := by decide +kernel
theorem dX2_image_4 : decode cX2_image 4 = .ok (.aload_n 0, 1) := by decide +kernel
theorem dX2_image_5 : decode cX2_image 5 = .ok (.getfield 10, 3) := by decide +kernel
theorem dX2_image_8 : decode cX2_image 8 = .ok (.invokevirtual 217, 3) := by decide +kernel
theorem dX2_image_11 : decode cX2_image 11 = .ok (.aload_n 0, 1) := by decide +kernel
theorem dX2_image_12 : decode cX2_image 12 = .ok (.iconst 1, 1) := by decide +kernel
theorem dX2_image_13 : decode cX2_image 13 = .ok (.putfield 221, 3) := by decide +kernel
theorem dX2_image_16 : decode cX2_image 16 = .ok (.aload_n 0, 1) := by decide +kernel
theorem dX2_image_17 : decode cX2_image 17 = .ok (.getfield 10, 3) := by decide +kernel
theorem dX2_image_20 : decode cX2_image 20 = .ok (.getfield 90, 3) := by decide +kernel
theorem dX2_image_23 : decode cX2_image 23 = .ok (.ireturn, 1) := by decide +kernel
set_option maxRecDepth 20000 in
theorem ggX2_on_X2_refused : GoodIn wsX2_on wsX2_refused := goodIn_r _ [9, 10, 37, 38, 39, 40, 41, 42, 43, 44, 45] (by decide +kernel) (by decide +kernel)
set_option maxRecDepth 20000 in
theorem gX2_on_X2_refused : GoodIn wsX2_on (wsV RX2 40 RX2 yX2_refused wsX2_refused) := goodIn_app (goodIn_of _ (by decide +kernel)) ggX2_on_X2_refused
set_option maxRecDepth 20000 in
theorem ggX2_on_X0_becomes : GoodIn wsX2_on wsX0_becomes := goodIn_r _ [15, 16, 17, 18, 19, 20, 21, 22, 23, 24, 25, 26, 27, 28, 29, 30, 31, 32, 33, 34, 35, 36, 46, 47, 48, 49, 50, 51, 52, 53, 54, 55, 56, 57, 58, 59, 60, 61, 62] (by decide +kernel) (by decide +kernel)
set_option maxRecDepth 20000 in
theorem gX2_on_X0_becomes : GoodIn wsX2_on (wsV RX2 217 RX0 yX0_becomes wsX0_becomes) := goodIn_app (goodIn_of _ (by decide +kernel)) ggX2_on_X0_becomes
theorem dX2_on_0 : decode cX2_on 0 = .ok (.aload_n 0, 1) := by decide +kernel
theorem dX2_on_1 : decode cX2_on 1 = .ok (.getfield 221, 3) := by decide +kernel
theorem dX2_on_4 : decode cX2_on 4 = .ok (.ifCond .ne 10, 3) := by decide +kernel
theorem dX2_on_7 : decode cX2_on 7 = .ok (.aload_n 0, 1) := by decide +kernel
theorem dX2_on_8 : decode cX2_on 8 = .ok (.bipush (-3), 2) := by decide +kernel
theorem dX2_on_10 : decode cX2_on 10 = .ok (.invokevirtual 40, 3) := by decide +kernel
theorem dX2_on_13 : decode cX2_on 13 = .ok (.ireturn, 1) := by decide +kernel
theorem dX2_on_14 : decode cX2_on 14 = .ok (.aload_n 0, 1) := by decide +kernel
theorem dX2_on_15 : decode cX2_on 15 = .ok (.getfield 10, 3) := by decide +kernel
theorem dX2_on_18 : decode cX2_on 18 = .ok (.aload_n 0, 1) := by decide +kernel
theorem dX2_on_19 : decode cX2_on 19 = .ok (.getfield 16, 3) := by decide +kernel
theorem dX2_on_22 : decode cX2_on 22 = .ok (.invokevirtual 217, 3) := by decide +kernel
theorem dX2_on_25 : decode cX2_on 25 = .ok (.aload_n 0, 1) := by decide +kernel
theorem dX2_on_26 : decode cX2_on 26 = .ok (.getfield 10, 3) := by decide +kernel
theorem dX2_on_29 : decode cX2_on 29 = .ok (.getfield 90, 3) := by decide +kernel
theorem dX2_on_32 : decode cX2_on 32 = .ok (.ireturn, 1) := by decide +kernel
set_option maxRecDepth 20000 in
theorem ggX2_count_X0_questionsSo : GoodIn wsX2_count wsX0_questionsSo := goodIn_r _ [15, 16, 17, 18, 19, 14, 20, 21, 22, 23, 24, 25, 26, 27, 28, 29, 30, 31, 32, 33, 43, 44, 45, 46, 47, 48, 49, 50, 51, 52, 53, 54, 55, 56, 57, 58, 59] (by decide +kernel) (by decide +kernel)
set_option maxRecDepth 20000 in
theorem gX2_count_X0_questionsSo : GoodIn wsX2_count (wsV RX2 225 RX0 yX0_questionsSo wsX0_questionsSo) := goodIn_app (goodIn_of _ (by decide +kernel)) ggX2_count_X0_questionsSo
theorem dX2_count_0 : decode cX2_count 0 = .ok (.iload_n 1, 1) := by decide +kernel
theorem dX2_count_1 : decode cX2_count 1 = .ok (.bipush 11, 2) := by decide +kernel
theorem dX2_count_3 : decode cX2_count 3 = .ok (.if_icmp .lt 19, 3) := by decide +kernel
theorem dX2_count_6 : decode cX2_count 6 = .ok (.iload_n 1, 1) := by decide +kernel
theorem dX2_count_7 : decode cX2_count 7 = .ok (.bipush 16, 2) := by decide +kernel
theorem dX2_count_9 : decode cX2_count 9 = .ok (.if_icmp .gt 13, 3) := by decide +kernel
theorem dX2_count_12 : decode cX2_count 12 = .ok (.aload_n 0, 1) := by decide +kernel
theorem dX2_count_13 : decode cX2_count 13 = .ok (.getfield 33, 3) := by decide +kernel
theorem dX2_count_16 : decode cX2_count 16 = .ok (.iload_n 1, 1) := by decide +kernel
theorem dX2_count_17 : decode cX2_count 17 = .ok (.bipush 10, 2) := by decide +kernel
theorem dX2_count_19 : decode cX2_count 19 = .ok (.isub, 1) := by decide +kernel
theorem dX2_count_20 : decode cX2_count 20 = .ok (.iaload, 1) := by decide +kernel
theorem dX2_count_21 : decode cX2_count 21 = .ok (.ireturn, 1) := by decide +kernel
theorem dX2_count_22 : decode cX2_count 22 = .ok (.iload_n 1, 1) := by decide +kernel
theorem dX2_count_23 : decode cX2_count 23 = .ok (.tableswitch 106 0 7 #[45, 53, 61, 69, 77, 85, 93, 98], 45) := by decide +kernel
theorem dX2_count_68 : decode cX2_count 68 = .ok (.aload_n 0, 1) := by decide +kernel
theorem dX2_count_69 : decode cX2_count 69 = .ok (.getfield 10, 3) := by decide +kernel
theorem dX2_count_72 : decode cX2_count 72 = .ok (.getfield 179, 3) := by decide +kernel
theorem dX2_count_75 : decode cX2_count 75 = .ok (.ireturn, 1) := by decide +kernel
theorem dX2_count_76 : decode cX2_count 76 = .ok (.aload_n 0, 1) := by decide +kernel
theorem dX2_count_77 : decode cX2_count 77 = .ok (.getfield 10, 3) := by decide +kernel
theorem dX2_count_80 : decode cX2_count 80 = .ok (.getfield 152, 3) := by decide +kernel
theorem dX2_count_83 : decode cX2_count 83 = .ok (.ireturn, 1) := by decide +kernel
theorem dX2_count_84 : decode cX2_count 84 = .ok (.aload_n 0, 1) := by decide +kernel
theorem dX2_count_85 : decode cX2_count 85 = .ok (.getfield 10, 3) := by decide +kernel
theorem dX2_count_88 : decode cX2_count 88 = .ok (.getfield 60, 3) := by decide +kernel
theorem dX2_count_91 : decode cX2_count 91 = .ok (.ireturn, 1) := by decide +kernel
theorem dX2_count_92 : decode cX2_count 92 = .ok (.aload_n 0, 1) := by decide +kernel
theorem dX2_count_93 : decode cX2_count 93 = .ok (.getfield 10, 3) := by decide +kernel
theorem dX2_count_96 : decode cX2_count 96 = .ok (.getfield 112, 3) := by decide +kernel
theorem dX2_count_99 : decode cX2_count 99 = .ok (.ireturn, 1) := by decide +kernel
theorem dX2_count_100 : decode cX2_count 100 = .ok (.aload_n 0, 1) := by decide +kernel
theorem dX2_count_101 : decode cX2_count 101 = .ok (.getfield 10, 3) := by decide +kernel
theorem dX2_count_104 : decode cX2_count 104 = .ok (.getfield 90, 3) := by decide +kernel
theorem dX2_count_107 : decode cX2_count 107 = .ok (.ireturn, 1) := by decide +kernel
theorem dX2_count_108 : decode cX2_count 108 = .ok (.aload_n 0, 1) := by decide +kernel
theorem dX2_count_109 : decode cX2_count 109 = .ok (.getfield 10, 3) := by decide +kernel
theorem dX2_count_112 : decode cX2_count 112 = .ok (.invokevirtual 225, 3) := by decide +kernel
theorem dX2_count_115 : decode cX2_count 115 = .ok (.ireturn, 1) := by decide +kernel
theorem dX2_count_116 : decode cX2_count 116 = .ok (.aload_n 0, 1) := by decide +kernel
theorem dX2_count_117 : decode cX2_count 117 = .ok (.getfield 202, 3) := by decide +kernel
theorem dX2_count_120 : decode cX2_count 120 = .ok (.ireturn, 1) := by decide +kernel
theorem dX2_count_121 : decode cX2_count 121 = .ok (.aload_n 0, 1) := by decide +kernel
theorem dX2_count_122 : decode cX2_count 122 = .ok (.getfield 25, 3) := by decide +kernel
theorem dX2_count_125 : decode cX2_count 125 = .ok (.getfield 44, 3) := by decide +kernel
theorem dX2_count_128 : decode cX2_count 128 = .ok (.ireturn, 1) := by decide +kernel
theorem dX2_count_129 : decode cX2_count 129 = .ok (.bipush (-9), 2) := by decide +kernel
theorem dX2_count_131 : decode cX2_count 131 = .ok (.ireturn, 1) := by decide +kernel
theorem dX2_refused_0 : decode cX2_refused 0 = .ok (.iload_n 1, 1) := by decide +kernel
theorem dX2_refused_1 : decode cX2_refused 1 = .ok (.ifCond .ge 20, 3) := by decide +kernel
theorem dX2_refused_4 : decode cX2_refused 4 = .ok (.iload_n 1, 1) := by decide +kernel
theorem dX2_refused_5 : decode cX2_refused 5 = .ok (.bipush (-6), 2) := by decide +kernel
theorem dX2_refused_7 : decode cX2_refused 7 = .ok (.if_icmp .lt 14, 3) := by decide +kernel
theorem dX2_refused_10 : decode cX2_refused 10 = .ok (.aload_n 0, 1) := by decide +kernel
theorem dX2_refused_11 : decode cX2_refused 11 = .ok (.getfield 33, 3) := by decide +kernel
theorem dX2_refused_14 : decode cX2_refused 14 = .ok (.iload_n 1, 1) := by decide +kernel
theorem dX2_refused_15 : decode cX2_refused 15 = .ok (.ineg, 1) := by decide +kernel
theorem dX2_refused_16 : decode cX2_refused 16 = .ok (.dup2, 1) := by decide +kernel
theorem dX2_refused_17 : decode cX2_refused 17 = .ok (.iaload, 1) := by decide +kernel
theorem dX2_refused_18 : decode cX2_refused 18 = .ok (.iconst 1, 1) := by decide +kernel
theorem dX2_refused_19 : decode cX2_refused 19 = .ok (.iadd, 1) := by decide +kernel
theorem dX2_refused_20 : decode cX2_refused 20 = .ok (.iastore, 1) := by decide +kernel
theorem dX2_refused_21 : decode cX2_refused 21 = .ok (.iload_n 1, 1) := by decide +kernel
theorem dX2_refused_22 : decode cX2_refused 22 = .ok (.ireturn, 1) := by decide +kernel
set_option maxRecDepth 20000 in
theorem ggX2_longRefused_X2_refused : GoodIn wsX2_longRefused wsX2_refused := goodIn_r _ [6, 7, 8, 9, 10, 11, 12, 13, 14, 15, 16] (by decide +kernel) (by decide +kernel)
set_option maxRecDepth 20000 in
theorem gX2_longRefused_X2_refused : GoodIn wsX2_longRefused (wsV RX2 40 RX2 yX2_refused wsX2_refused) := goodIn_app (goodIn_of _ (by decide +kernel)) ggX2_longRefused_X2_refused
theorem dX2_longRefused_0 : decode cX2_longRefused 0 = .ok (.ldc2_w 228, 3) := by decide +kernel
theorem dX2_longRefused_3 : decode cX2_longRefused 3 = .ok (.aload_n 0, 1) := by decide +kernel
theorem dX2_longRefused_4 : decode cX2_longRefused 4 = .ok (.iload_n 1, 1) := by decide +kernel
theorem dX2_longRefused_5 : decode cX2_longRefused 5 = .ok (.invokevirtual 40, 3) := by decide +kernel
theorem dX2_longRefused_8 : decode cX2_longRefused 8 = .ok (.i2l, 1) := by decide +kernel
theorem dX2_longRefused_9 : decode cX2_longRefused 9 = .ok (.lsub, 1) := by decide +kernel
theorem dX2_longRefused_10 : decode cX2_longRefused 10 = .ok (.lreturn, 1) := by decide +kernel
theorem dX2_isFact_0 : decode cX2_isFact 0 = .ok (.iload_n 0, 1) := by decide +kernel
theorem dX2_isFact_1 : decode cX2_isFact 1 = .ok (.ifCond .lt 13, 3) := by decide +kernel
theorem dX2_isFact_4 : decode cX2_isFact 4 = .ok (.iload_n 0, 1) := by decide +kernel
theorem dX2_isFact_5 : decode cX2_isFact 5 = .ok (.bipush 6, 2) := by decide +kernel
theorem dX2_isFact_7 : decode cX2_isFact 7 = .ok (.if_icmp .ge 7, 3) := by decide +kernel
theorem dX2_isFact_10 : decode cX2_isFact 10 = .ok (.iconst 1, 1) := by decide +kernel
theorem dX2_isFact_11 : decode cX2_isFact 11 = .ok (.goto 4, 3) := by decide +kernel
theorem dX2_isFact_14 : decode cX2_isFact 14 = .ok (.iconst 0, 1) := by decide +kernel
theorem dX2_isFact_15 : decode cX2_isFact 15 = .ok (.ireturn, 1) := by decide +kernel
theorem dX2_isPart_0 : decode cX2_isPart 0 = .ok (.iload_n 0, 1) := by decide +kernel
theorem dX2_isPart_1 : decode cX2_isPart 1 = .ok (.ifCond .eq 8, 3) := by decide +kernel
theorem dX2_isPart_4 : decode cX2_isPart 4 = .ok (.iload_n 0, 1) := by decide +kernel
theorem dX2_isPart_5 : decode cX2_isPart 5 = .ok (.iconst 1, 1) := by decide +kernel
theorem dX2_isPart_6 : decode cX2_isPart 6 = .ok (.if_icmp .ne 7, 3) := by decide +kernel
theorem dX2_isPart_9 : decode cX2_isPart 9 = .ok (.iconst 1, 1) := by decide +kernel
theorem dX2_isPart_10 : decode cX2_isPart 10 = .ok (.goto 4, 3) := by decide +kernel
theorem dX2_isPart_13 : decode cX2_isPart 13 = .ok (.iconst 0, 1) := by decide +kernel
theorem dX2_isPart_14 : decode cX2_isPart 14 = .ok (.ireturn, 1) := by decide +kernel
set_option maxRecDepth 20000 in
theorem ggX2_factCases_X2_isFact : GoodIn wsX2_factCases wsX2_isFact := goodIn_r _ [5] (by decide +kernel) (by decide +kernel)
set_option maxRecDepth 20000 in
theorem gX2_factCases_X2_isFact : GoodIn wsX2_factCases (va_wsS RX2 56 yX2_isFact wsX2_isFact) := goodIn_app (goodIn_of _ (by decide +kernel)) ggX2_factCases_X2_isFact
theorem dX2_factCases_0 : decode cX2_factCases 0 = .ok (.iload_n 0, 1) := by decide +kernel
theorem dX2_factCases_1 : decode cX2_factCases 1 = .ok (.invokestatic 56, 3) := by decide +kernel
theorem dX2_factCases_4 : decode cX2_factCases 4 = .ok (.ifCond .eq 11, 3) := by decide +kernel
theorem dX2_factCases_7 : decode cX2_factCases 7 = .ok (.getstatic 230, 3) := by decide +kernel
theorem dX2_factCases_10 : decode cX2_factCases 10 = .ok (.iload_n 0, 1) := by decide +kernel
theorem dX2_factCases_11 : decode cX2_factCases 11 = .ok (.laload, 1) := by decide +kernel
theorem dX2_factCases_12 : decode cX2_factCases 12 = .ok (.goto 4, 3) := by decide +kernel
theorem dX2_factCases_15 : decode cX2_factCases 15 = .ok (.lconst 0, 1) := by decide +kernel
theorem dX2_factCases_16 : decode cX2_factCases 16 = .ok (.lreturn, 1) := by decide +kernel
theorem dX2_isIn_0 : decode cX2_isIn 0 = .ok (.lload_n 0, 1) := by decide +kernel
theorem dX2_isIn_1 : decode cX2_isIn 1 = .ok (.iload_n 2, 1) := by decide +kernel
theorem dX2_isIn_2 : decode cX2_isIn 2 = .ok (.lushr, 1) := by decide +kernel
theorem dX2_isIn_3 : decode cX2_isIn 3 = .ok (.lconst 1, 1) := by decide +kernel
theorem dX2_isIn_4 : decode cX2_isIn 4 = .ok (.land, 1) := by decide +kernel
theorem dX2_isIn_5 : decode cX2_isIn 5 = .ok (.lconst 0, 1) := by decide +kernel
theorem dX2_isIn_6 : decode cX2_isIn 6 = .ok (.lcmp, 1) := by decide +kernel
theorem dX2_isIn_7 : decode cX2_isIn 7 = .ok (.ifCond .eq 7, 3) := by decide +kernel
theorem dX2_isIn_10 : decode cX2_isIn 10 = .ok (.iconst 1, 1) := by decide +kernel
theorem dX2_isIn_11 : decode cX2_isIn 11 = .ok (.goto 4, 3) := by decide +kernel
theorem dX2_isIn_14 : decode cX2_isIn 14 = .ok (.iconst 0, 1) := by decide +kernel
theorem dX2_isIn_15 : decode cX2_isIn 15 = .ok (.ireturn, 1) := by decide +kernel
set_option maxRecDepth 20000 in
theorem ggX2_sizeOrLeast_J13_bitCount_95d88 : GoodIn wsX2_sizeOrLeast wsJ13_bitCount_95d88 := goodIn_r _ [4, 5, 6, 7] (by decide +kernel) (by decide +kernel)
set_option maxRecDepth 20000 in
theorem gX2_sizeOrLeast_J13_bitCount_95d88 : GoodIn wsX2_sizeOrLeast (va_wsS RX2 169 yJ13_bitCount_95d88 wsJ13_bitCount_95d88) := goodIn_app (goodIn_of _ (by decide +kernel)) ggX2_sizeOrLeast_J13_bitCount_95d88
theorem dX2_sizeOrLeast_0 : decode cX2_sizeOrLeast 0 = .ok (.iload_n 2, 1) := by decide +kernel
theorem dX2_sizeOrLeast_1 : decode cX2_sizeOrLeast 1 = .ok (.ifCond .ne 8, 3) := by decide +kernel
theorem dX2_sizeOrLeast_4 : decode cX2_sizeOrLeast 4 = .ok (.lload_n 0, 1) := by decide +kernel
theorem dX2_sizeOrLeast_5 : decode cX2_sizeOrLeast 5 = .ok (.invokestatic 169, 3) := by decide +kernel
theorem dX2_sizeOrLeast_8 : decode cX2_sizeOrLeast 8 = .ok (.ireturn, 1) := by decide +kernel
theorem dX2_sizeOrLeast_9 : decode cX2_sizeOrLeast 9 = .ok (.lload_n 0, 1) := by decide +kernel
theorem dX2_sizeOrLeast_10 : decode cX2_sizeOrLeast 10 = .ok (.lconst 0, 1) := by decide +kernel
theorem dX2_sizeOrLeast_11 : decode cX2_sizeOrLeast 11 = .ok (.lcmp, 1) := by decide +kernel
theorem dX2_sizeOrLeast_12 : decode cX2_sizeOrLeast 12 = .ok (.ifCond .ne 8, 3) := by decide +kernel
theorem dX2_sizeOrLeast_15 : decode cX2_sizeOrLeast 15 = .ok (.bipush (-9), 2) := by decide +kernel
theorem dX2_sizeOrLeast_17 : decode cX2_sizeOrLeast 17 = .ok (.goto 12, 3) := by decide +kernel
theorem dX2_sizeOrLeast_20 : decode cX2_sizeOrLeast 20 = .ok (.lload_n 0, 1) := by decide +kernel
theorem dX2_sizeOrLeast_21 : decode cX2_sizeOrLeast 21 = .ok (.lload_n 0, 1) := by decide +kernel
theorem dX2_sizeOrLeast_22 : decode cX2_sizeOrLeast 22 = .ok (.lneg, 1) := by decide +kernel
theorem dX2_sizeOrLeast_23 : decode cX2_sizeOrLeast 23 = .ok (.land, 1) := by decide +kernel
theorem dX2_sizeOrLeast_24 : decode cX2_sizeOrLeast 24 = .ok (.lconst 1, 1) := by decide +kernel
theorem dX2_sizeOrLeast_25 : decode cX2_sizeOrLeast 25 = .ok (.lsub, 1) := by decide +kernel
theorem dX2_sizeOrLeast_26 : decode cX2_sizeOrLeast 26 = .ok (.invokestatic 169, 3) := by decide +kernel
theorem dX2_sizeOrLeast_29 : decode cX2_sizeOrLeast 29 = .ok (.ireturn, 1) := by decide +kernel
theorem dX2_isSure_0 : decode cX2_isSure 0 = .ok (.lload_n 0, 1) := by decide +kernel
theorem dX2_isSure_1 : decode cX2_isSure 1 = .ok (.lload_n 2, 1) := by decide +kernel
theorem dX2_isSure_2 : decode cX2_isSure 2 = .ok (.land, 1) := by decide +kernel
theorem dX2_isSure_3 : decode cX2_isSure 3 = .ok (.lstore 4, 2) := by decide +kernel
theorem dX2_isSure_5 : decode cX2_isSure 5 = .ok (.lload_n 0, 1) := by decide +kernel
theorem dX2_isSure_6 : decode cX2_isSure 6 = .ok (.lconst 0, 1) := by decide +kernel
theorem dX2_isSure_7 : decode cX2_isSure 7 = .ok (.lcmp, 1) := by decide +kernel
theorem dX2_isSure_8 : decode cX2_isSure 8 = .ok (.ifCond .eq 21, 3) := by decide +kernel
theorem dX2_isSure_11 : decode cX2_isSure 11 = .ok (.lload 4, 2) := by decide +kernel
theorem dX2_isSure_13 : decode cX2_isSure 13 = .ok (.lconst 0, 1) := by decide +kernel
theorem dX2_isSure_14 : decode cX2_isSure 14 = .ok (.lcmp, 1) := by decide +kernel
theorem dX2_isSure_15 : decode cX2_isSure 15 = .ok (.ifCond .eq 10, 3) := by decide +kernel
theorem dX2_isSure_18 : decode cX2_isSure 18 = .ok (.lload 4, 2) := by decide +kernel
theorem dX2_isSure_20 : decode cX2_isSure 20 = .ok (.lload_n 0, 1) := by decide +kernel
theorem dX2_isSure_21 : decode cX2_isSure 21 = .ok (.lcmp, 1) := by decide +kernel
theorem dX2_isSure_22 : decode cX2_isSure 22 = .ok (.ifCond .ne 7, 3) := by decide +kernel
theorem dX2_isSure_25 : decode cX2_isSure 25 = .ok (.iconst 1, 1) := by decide +kernel
theorem dX2_isSure_26 : decode cX2_isSure 26 = .ok (.goto 4, 3) := by decide +kernel
theorem dX2_isSure_29 : decode cX2_isSure 29 = .ok (.iconst 0, 1) := by decide +kernel
theorem dX2_isSure_30 : decode cX2_isSure 30 = .ok (.ireturn, 1) := by decide +kernel
set_option maxRecDepth 20000 in
theorem ggX2_inLeastTerms_X2_commonDivisor : GoodIn wsX2_inLeastTerms wsX2_commonDivisor := goodIn_r _ [4] (by decide +kernel) (by decide +kernel)
set_option maxRecDepth 20000 in
theorem gX2_inLeastTerms_X2_commonDivisor : GoodIn wsX2_inLeastTerms (va_wsS RX2 233 yX2_commonDivisor wsX2_commonDivisor) := goodIn_app (goodIn_of _ (by decide +kernel)) ggX2_inLeastTerms_X2_commonDivisor
theorem dX2_inLeastTerms_0 : decode cX2_inLeastTerms 0 = .ok (.iload_n 0, 1) := by decide +kernel
theorem dX2_inLeastTerms_1 : decode cX2_inLeastTerms 1 = .ok (.ifCond .le 7, 3) := by decide +kernel
theorem dX2_inLeastTerms_4 : decode cX2_inLeastTerms 4 = .ok (.iload_n 1, 1) := by decide +kernel
theorem dX2_inLeastTerms_5 : decode cX2_inLeastTerms 5 = .ok (.ifCond .gt 13, 3) := by decide +kernel
theorem dX2_inLeastTerms_8 : decode cX2_inLeastTerms 8 = .ok (.iload_n 2, 1) := by decide +kernel
theorem dX2_inLeastTerms_9 : decode cX2_inLeastTerms 9 = .ok (.ifCond .ne 7, 3) := by decide +kernel
theorem dX2_inLeastTerms_12 : decode cX2_inLeastTerms 12 = .ok (.lconst 0, 1) := by decide +kernel
theorem dX2_inLeastTerms_13 : decode cX2_inLeastTerms 13 = .ok (.goto 4, 3) := by decide +kernel
theorem dX2_inLeastTerms_16 : decode cX2_inLeastTerms 16 = .ok (.lconst 1, 1) := by decide +kernel
theorem dX2_inLeastTerms_17 : decode cX2_inLeastTerms 17 = .ok (.lreturn, 1) := by decide +kernel
theorem dX2_inLeastTerms_18 : decode cX2_inLeastTerms 18 = .ok (.iload_n 0, 1) := by decide +kernel
theorem dX2_inLeastTerms_19 : decode cX2_inLeastTerms 19 = .ok (.iload_n 1, 1) := by decide +kernel
theorem dX2_inLeastTerms_20 : decode cX2_inLeastTerms 20 = .ok (.invokestatic 233, 3) := by decide +kernel
theorem dX2_inLeastTerms_23 : decode cX2_inLeastTerms 23 = .ok (.istore_n 3, 1) := by decide +kernel
theorem dX2_inLeastTerms_24 : decode cX2_inLeastTerms 24 = .ok (.iload_n 2, 1) := by decide +kernel
theorem dX2_inLeastTerms_25 : decode cX2_inLeastTerms 25 = .ok (.ifCond .ne 7, 3) := by decide +kernel
theorem dX2_inLeastTerms_28 : decode cX2_inLeastTerms 28 = .ok (.iload_n 0, 1) := by decide +kernel
theorem dX2_inLeastTerms_29 : decode cX2_inLeastTerms 29 = .ok (.goto 4, 3) := by decide +kernel
theorem dX2_inLeastTerms_32 : decode cX2_inLeastTerms 32 = .ok (.iload_n 1, 1) := by decide +kernel
theorem dX2_inLeastTerms_33 : decode cX2_inLeastTerms 33 = .ok (.iload_n 3, 1) := by decide +kernel
theorem dX2_inLeastTerms_34 : decode cX2_inLeastTerms 34 = .ok (.idiv, 1) := by decide +kernel
theorem dX2_inLeastTerms_35 : decode cX2_inLeastTerms 35 = .ok (.i2l, 1) := by decide +kernel
theorem dX2_inLeastTerms_36 : decode cX2_inLeastTerms 36 = .ok (.lreturn, 1) := by decide +kernel
theorem dX2_commonDivisor_0 : decode cX2_commonDivisor 0 = .ok (.iload_n 0, 1) := by decide +kernel
theorem dX2_commonDivisor_1 : decode cX2_commonDivisor 1 = .ok (.istore_n 2, 1) := by decide +kernel
theorem dX2_commonDivisor_2 : decode cX2_commonDivisor 2 = .ok (.iload_n 1, 1) := by decide +kernel
theorem dX2_commonDivisor_3 : decode cX2_commonDivisor 3 = .ok (.istore_n 3, 1) := by decide +kernel
theorem dX2_commonDivisor_4 : decode cX2_commonDivisor 4 = .ok (.iconst 0, 1) := by decide +kernel
theorem dX2_commonDivisor_5 : decode cX2_commonDivisor 5 = .ok (.istore 4, 2) := by decide +kernel
theorem dX2_commonDivisor_7 : decode cX2_commonDivisor 7 = .ok (.iload 4, 2) := by decide +kernel
theorem dX2_commonDivisor_9 : decode cX2_commonDivisor 9 = .ok (.bipush 100, 2) := by decide +kernel
theorem dX2_commonDivisor_11 : decode cX2_commonDivisor 11 = .ok (.if_icmp .ge 23, 3) := by decide +kernel
theorem dX2_commonDivisor_14 : decode cX2_commonDivisor 14 = .ok (.iload_n 3, 1) := by decide +kernel
theorem dX2_commonDivisor_15 : decode cX2_commonDivisor 15 = .ok (.ifCond .le 19, 3) := by decide +kernel
theorem dX2_commonDivisor_18 : decode cX2_commonDivisor 18 = .ok (.iload_n 2, 1) := by decide +kernel
theorem dX2_commonDivisor_19 : decode cX2_commonDivisor 19 = .ok (.iload_n 3, 1) := by decide +kernel
theorem dX2_commonDivisor_20 : decode cX2_commonDivisor 20 = .ok (.irem, 1) := by decide +kernel
theorem dX2_commonDivisor_21 : decode cX2_commonDivisor 21 = .ok (.istore 5, 2) := by decide +kernel
theorem dX2_commonDivisor_23 : decode cX2_commonDivisor 23 = .ok (.iload_n 3, 1) := by decide +kernel
theorem dX2_commonDivisor_24 : decode cX2_commonDivisor 24 = .ok (.istore_n 2, 1) := by decide +kernel
theorem dX2_commonDivisor_25 : decode cX2_commonDivisor 25 = .ok (.iload 5, 2) := by decide +kernel
theorem dX2_commonDivisor_27 : decode cX2_commonDivisor 27 = .ok (.istore_n 3, 1) := by decide +kernel
theorem dX2_commonDivisor_28 : decode cX2_commonDivisor 28 = .ok (.iinc 4 1, 3) := by decide +kernel
theorem dX2_commonDivisor_31 : decode cX2_commonDivisor 31 = .ok (.goto (-24), 3) := by decide +kernel
theorem dX2_commonDivisor_34 : decode cX2_commonDivisor 34 = .ok (.iload_n 2, 1) := by decide +kernel
theorem dX2_commonDivisor_35 : decode cX2_commonDivisor 35 = .ok (.ifCond .le 7, 3) := by decide +kernel
theorem dX2_commonDivisor_38 : decode cX2_commonDivisor 38 = .ok (.iload_n 2, 1) := by decide +kernel
theorem dX2_commonDivisor_39 : decode cX2_commonDivisor 39 = .ok (.goto 4, 3) := by decide +kernel
theorem dX2_commonDivisor_42 : decode cX2_commonDivisor 42 = .ok (.iconst 1, 1) := by decide +kernel
theorem dX2_commonDivisor_43 : decode cX2_commonDivisor 43 = .ok (.ireturn, 1) := by decide +kernel
set_option maxRecDepth 20000 in
theorem ggX2_playScript_X1_brokenPlace : GoodIn wsX2_playScript wsX1_brokenPlace := goodIn_r _ [9, 10, 11, 12, 13, 14, 15, 16, 17, 18, 19, 20, 21, 22, 23, 24, 25, 8, 26, 27, 28, 29, 30, 31, 32, 33, 34, 35, 36, 37, 38, 39, 40, 41, 42, 43, 44, 45, 46, 47, 48, 49, 50, 51, 52, 53, 54, 55, 56, 57, 58, 59, 60, 61, 62, 63, 64, 65, 66, 67, 68, 69, 70, 71, 72, 73, 74, 75, 76, 77, 78, 79, 80, 81, 82, 83, 84, 85, 86, 87, 88, 89, 90, 91, 92, 93, 94, 95, 96, 97, 98, 99, 100, 101, 102, 103, 104, 105, 106, 107, 108, 109, 110, 111, 112, 113, 114, 115, 116, 117, 118, 119, 120, 121, 122, 123, 124, 125, 126, 127, 128, 129, 130, 131, 265, 266] (by decide +kernel) (by decide +kernel)
set_option maxRecDepth 20000 in
theorem gX2_playScript_X1_brokenPlace : GoodIn wsX2_playScript (wsV RX2 236 RX1 yX1_brokenPlace wsX1_brokenPlace) := goodIn_app (goodIn_of _ (by decide +kernel)) ggX2_playScript_X1_brokenPlace
set_option maxRecDepth 20000 in
theorem ggX2_playScript_X0_becomes : GoodIn wsX2_playScript wsX0_becomes := goodIn_r _ [136, 137, 138, 139, 140, 141, 142, 143, 144, 145, 146, 147, 148, 149, 150, 151, 152, 153, 154, 155, 156, 157, 267, 268, 269, 270, 271, 272, 273, 274, 275, 276, 277, 278, 279, 280, 281, 282, 283] (by decide +kernel) (by decide +kernel)
set_option maxRecDepth 20000 in
theorem gX2_playScript_X0_becomes : GoodIn wsX2_playScript (wsV RX2 217 RX0 yX0_becomes wsX0_becomes) := goodIn_app (goodIn_of _ (by decide +kernel)) ggX2_playScript_X0_becomes
set_option maxRecDepth 20000 in
theorem ggX2_playScript_X1_play : GoodIn wsX2_playScript wsX1_play := goodIn_r _ [161, 162, 163, 164, 165, 8, 166, 167, 168, 169, 170, 10, 11, 171, 172, 173, 135, 174, 137, 175, 176, 177, 178, 179, 180, 181, 139, 142, 147, 148, 149, 150, 182, 183, 184, 185, 186, 187, 188, 189, 190, 191, 192, 193, 71, 72, 73, 15, 74, 75, 76, 77, 78, 17, 35, 36, 37, 38, 22, 23, 79, 13, 14, 16, 18, 19, 20, 21, 80, 81, 41, 82, 83, 84, 85, 86, 87, 88, 89, 90, 91, 92, 93, 94, 95, 96, 97, 53, 98, 99, 100, 101, 102, 103, 104, 105, 106, 107, 58, 59, 60, 108, 109, 110, 46, 111, 112, 49, 113, 114, 115, 116, 62, 63, 64, 65, 66, 67, 117, 118, 119, 120, 121, 122, 123, 124, 125, 126, 127, 128, 129, 130, 131, 194, 195, 196, 197, 140, 151, 152, 153, 198, 199, 200, 201, 202, 203, 204, 205, 206, 207, 208, 209, 138, 210, 211, 212, 213, 214, 215, 216, 217, 141, 154, 155, 156, 157, 218, 219, 220, 221, 222, 223, 224, 225, 226, 227, 228, 229, 230, 231, 232, 233, 234, 235, 236, 237, 238, 239, 240, 241, 242, 243, 244, 245, 246, 247, 248, 249, 250, 251, 143, 144, 145, 146, 267, 268, 269, 270, 271, 272, 273, 274, 275, 276, 277, 278, 279, 280, 281, 282, 283, 265, 266] (by decide +kernel) (by decide +kernel)
set_option maxRecDepth 20000 in
theorem gX2_playScript_X1_play : GoodIn wsX2_playScript (wsV RX2 239 RX1 yX1_play wsX1_play) := goodIn_app (goodIn_of _ (by decide +kernel)) ggX2_playScript_X1_play
set_option maxRecDepth 20000 in
theorem ggX2_playScript_X1_statementLength : GoodIn wsX2_playScript wsX1_statementLength := goodIn_r _ [255, 167, 168, 169, 8, 170, 10, 11, 24, 25, 26, 12, 13, 14, 15, 16, 17, 18, 19, 20, 21, 22, 23, 265, 266] (by decide +kernel) (by decide +kernel)
set_option maxRecDepth 20000 in
theorem gX2_playScript_X1_statementLength : GoodIn wsX2_playScript (wsV RX2 243 RX1 yX1_statementLength wsX1_statementLength) := goodIn_app (goodIn_of _ (by decide +kernel)) ggX2_playScript_X1_statementLength
theorem dX2_playScript_0 : decode cX2_playScript 0 = .ok (.aload_n 0, 1) := by decide +kernel
theorem dX2_playScript_1 : decode cX2_playScript 1 = .ok (.getfield 25, 3) := by decide +kernel
theorem dX2_playScript_4 : decode cX2_playScript 4 = .ok (.invokevirtual 236, 3) := by decide +kernel
theorem dX2_playScript_7 : decode cX2_playScript 7 = .ok (.istore_n 1, 1) := by decide +kernel
theorem dX2_playScript_8 : decode cX2_playScript 8 = .ok (.iload_n 1, 1) := by decide +kernel
theorem dX2_playScript_9 : decode cX2_playScript 9 = .ok (.ifCond .lt 9, 3) := by decide +kernel
theorem dX2_playScript_12 : decode cX2_playScript 12 = .ok (.sipush (-1000), 3) := by decide +kernel
theorem dX2_playScript_15 : decode cX2_playScript 15 = .ok (.iload_n 1, 1) := by decide +kernel
theorem dX2_playScript_16 : decode cX2_playScript 16 = .ok (.isub, 1) := by decide +kernel
theorem dX2_playScript_17 : decode cX2_playScript 17 = .ok (.ireturn, 1) := by decide +kernel
theorem dX2_playScript_18 : decode cX2_playScript 18 = .ok (.aload_n 0, 1) := by decide +kernel
theorem dX2_playScript_19 : decode cX2_playScript 19 = .ok (.getfield 19, 3) := by decide +kernel
theorem dX2_playScript_22 : decode cX2_playScript 22 = .ok (.aload_n 0, 1) := by decide +kernel
theorem dX2_playScript_23 : decode cX2_playScript 23 = .ok (.getfield 10, 3) := by decide +kernel
theorem dX2_playScript_26 : decode cX2_playScript 26 = .ok (.invokevirtual 217, 3) := by decide +kernel
theorem dX2_playScript_29 : decode cX2_playScript 29 = .ok (.iconst 0, 1) := by decide +kernel
theorem dX2_playScript_30 : decode cX2_playScript 30 = .ok (.istore_n 2, 1) := by decide +kernel
theorem dX2_playScript_31 : decode cX2_playScript 31 = .ok (.iconst 0, 1) := by decide +kernel
theorem dX2_playScript_32 : decode cX2_playScript 32 = .ok (.istore_n 3, 1) := by decide +kernel
theorem dX2_playScript_33 : decode cX2_playScript 33 = .ok (.iload_n 2, 1) := by decide +kernel
theorem dX2_playScript_34 : decode cX2_playScript 34 = .ok (.aload_n 0, 1) := by decide +kernel
theorem dX2_playScript_35 : decode cX2_playScript 35 = .ok (.getfield 25, 3) := by decide +kernel
theorem dX2_playScript_38 : decode cX2_playScript 38 = .ok (.getfield 44, 3) := by decide +kernel
theorem dX2_playScript_41 : decode cX2_playScript 41 = .ok (.if_icmp .ge 47, 3) := by decide +kernel
theorem dX2_playScript_44 : decode cX2_playScript 44 = .ok (.iload_n 3, 1) := by decide +kernel
theorem dX2_playScript_45 : decode cX2_playScript 45 = .ok (.bipush 96, 2) := by decide +kernel
theorem dX2_playScript_47 : decode cX2_playScript 47 = .ok (.if_icmp .ge 41, 3) := by decide +kernel
theorem dX2_playScript_50 : decode cX2_playScript 50 = .ok (.aload_n 0, 1) := by decide +kernel
theorem dX2_playScript_51 : decode cX2_playScript 51 = .ok (.getfield 25, 3) := by decide +kernel
theorem dX2_playScript_54 : decode cX2_playScript 54 = .ok (.iload_n 2, 1) := by decide +kernel
theorem dX2_playScript_55 : decode cX2_playScript 55 = .ok (.aload_n 0, 1) := by decide +kernel
theorem dX2_playScript_56 : decode cX2_playScript 56 = .ok (.getfield 19, 3) := by decide +kernel
theorem dX2_playScript_59 : decode cX2_playScript 59 = .ok (.invokevirtual 239, 3) := by decide +kernel
theorem dX2_playScript_62 : decode cX2_playScript 62 = .ok (.ifCond .ne 9, 3) := by decide +kernel
theorem dX2_playScript_65 : decode cX2_playScript 65 = .ok (.sipush (-2000), 3) := by decide +kernel
theorem dX2_playScript_68 : decode cX2_playScript 68 = .ok (.iload_n 2, 1) := by decide +kernel
theorem dX2_playScript_69 : decode cX2_playScript 69 = .ok (.isub, 1) := by decide +kernel
theorem dX2_playScript_70 : decode cX2_playScript 70 = .ok (.ireturn, 1) := by decide +kernel
theorem dX2_playScript_71 : decode cX2_playScript 71 = .ok (.iload_n 2, 1) := by decide +kernel
theorem dX2_playScript_72 : decode cX2_playScript 72 = .ok (.aload_n 0, 1) := by decide +kernel
theorem dX2_playScript_73 : decode cX2_playScript 73 = .ok (.getfield 25, 3) := by decide +kernel
theorem dX2_playScript_76 : decode cX2_playScript 76 = .ok (.iload_n 2, 1) := by decide +kernel
theorem dX2_playScript_77 : decode cX2_playScript 77 = .ok (.invokevirtual 243, 3) := by decide +kernel
theorem dX2_playScript_80 : decode cX2_playScript 80 = .ok (.iadd, 1) := by decide +kernel
theorem dX2_playScript_81 : decode cX2_playScript 81 = .ok (.istore_n 2, 1) := by decide +kernel
theorem dX2_playScript_82 : decode cX2_playScript 82 = .ok (.iinc 3 1, 3) := by decide +kernel
theorem dX2_playScript_85 : decode cX2_playScript 85 = .ok (.goto (-52), 3) := by decide +kernel
theorem dX2_playScript_88 : decode cX2_playScript 88 = .ok (.aload_n 0, 1) := by decide +kernel
theorem dX2_playScript_89 : decode cX2_playScript 89 = .ok (.getfield 10, 3) := by decide +kernel
theorem dX2_playScript_92 : decode cX2_playScript 92 = .ok (.aload_n 0, 1) := by decide +kernel
theorem dX2_playScript_93 : decode cX2_playScript 93 = .ok (.getfield 19, 3) := by decide +kernel
theorem dX2_playScript_96 : decode cX2_playScript 96 = .ok (.invokevirtual 217, 3) := by decide +kernel
theorem dX2_playScript_99 : decode cX2_playScript 99 = .ok (.iload_n 3, 1) := by decide +kernel
theorem dX2_playScript_100 : decode cX2_playScript 100 = .ok (.ireturn, 1) := by decide +kernel
set_option maxRecDepth 20000 in
theorem ggX2_bestAsking_X0_fitting : GoodIn wsX2_bestAsking wsX0_fitting := goodIn_r _ [8, 9, 10, 11, 12, 13, 7, 14, 15, 16, 17, 18, 19, 20, 21, 22, 23, 24, 25, 26, 27, 28, 29, 30, 31, 32, 33, 34, 35, 36, 37, 38, 39, 40, 41, 42, 43, 44, 45, 46, 47, 48, 49, 50, 51, 52, 53, 54, 55, 56, 57, 58, 59, 60, 61, 62, 63, 64, 65, 93, 94, 95, 96, 97, 98, 99, 100, 101, 102, 103, 104, 105, 106, 107, 108, 109] (by decide +kernel) (by decide +kernel)
set_option maxRecDepth 20000 in
theorem gX2_bestAsking_X0_fitting : GoodIn wsX2_bestAsking (wsV RX2 122 RX0 yX0_fitting wsX0_fitting) := goodIn_app (goodIn_of _ (by decide +kernel)) ggX2_bestAsking_X0_fitting
set_option maxRecDepth 20000 in
theorem ggX2_bestAsking_X2_worstLeft : GoodIn wsX2_bestAsking wsX2_worstLeft := goodIn_r _ [70, 1, 71, 72, 73, 74, 75, 76, 24, 25, 7, 26, 9, 27, 28, 29, 30, 31, 32, 33, 34, 35, 36, 37, 38, 39, 40, 41, 42, 43, 44, 45, 46, 47, 48, 49, 50, 51, 52, 53, 54, 55, 56, 57, 58, 59, 60, 61, 62, 63, 64, 65, 77, 78, 79, 80, 81, 82, 83, 84, 85, 86, 87, 88, 89, 90, 91, 92, 93, 94, 95, 96, 97, 98, 99, 100, 101, 102, 103, 104, 105, 106, 107, 108, 109] (by decide +kernel) (by decide +kernel)
set_option maxRecDepth 20000 in
theorem gX2_bestAsking_X2_worstLeft : GoodIn wsX2_bestAsking (wsV RX2 246 RX2 yX2_worstLeft wsX2_worstLeft) := goodIn_app (goodIn_of _ (by decide +kernel)) ggX2_bestAsking_X2_worstLeft
theorem dX2_bestAsking_0 : decode cX2_bestAsking 0 = .ok (.aload_n 0, 1) := by decide +kernel
theorem dX2_bestAsking_1 : decode cX2_bestAsking 1 = .ok (.getfield 10, 3) := by decide +kernel
theorem dX2_bestAsking_4 : decode cX2_bestAsking 4 = .ok (.invokevirtual 122, 3) := by decide +kernel
theorem dX2_bestAsking_7 : decode cX2_bestAsking 7 = .ok (.lstore_n 2, 1) := by decide +kernel
theorem dX2_bestAsking_8 : decode cX2_bestAsking 8 = .ok (.bipush (-9), 2) := by decide +kernel
theorem dX2_bestAsking_10 : decode cX2_bestAsking 10 = .ok (.istore 4, 2) := by decide +kernel
theorem dX2_bestAsking_12 : decode cX2_bestAsking 12 = .ok (.bipush (-9), 2) := by decide +kernel
theorem dX2_bestAsking_14 : decode cX2_bestAsking 14 = .ok (.istore 5, 2) := by decide +kernel
theorem dX2_bestAsking_16 : decode cX2_bestAsking 16 = .ok (.iconst 0, 1) := by decide +kernel
theorem dX2_bestAsking_17 : decode cX2_bestAsking 17 = .ok (.istore 6, 2) := by decide +kernel
theorem dX2_bestAsking_19 : decode cX2_bestAsking 19 = .ok (.iload 6, 2) := by decide +kernel
theorem dX2_bestAsking_21 : decode cX2_bestAsking 21 = .ok (.aload_n 0, 1) := by decide +kernel
theorem dX2_bestAsking_22 : decode cX2_bestAsking 22 = .ok (.getfield 10, 3) := by decide +kernel
theorem dX2_bestAsking_25 : decode cX2_bestAsking 25 = .ok (.getfield 152, 3) := by decide +kernel
theorem dX2_bestAsking_28 : decode cX2_bestAsking 28 = .ok (.if_icmp .ge 69, 3) := by decide +kernel
theorem dX2_bestAsking_31 : decode cX2_bestAsking 31 = .ok (.iconst 0, 1) := by decide +kernel
theorem dX2_bestAsking_32 : decode cX2_bestAsking 32 = .ok (.istore 7, 2) := by decide +kernel
theorem dX2_bestAsking_34 : decode cX2_bestAsking 34 = .ok (.iload 7, 2) := by decide +kernel
theorem dX2_bestAsking_36 : decode cX2_bestAsking 36 = .ok (.aload_n 0, 1) := by decide +kernel
theorem dX2_bestAsking_37 : decode cX2_bestAsking 37 = .ok (.getfield 10, 3) := by decide +kernel
theorem dX2_bestAsking_40 : decode cX2_bestAsking 40 = .ok (.getfield 179, 3) := by decide +kernel
theorem dX2_bestAsking_43 : decode cX2_bestAsking 43 = .ok (.if_icmp .ge 48, 3) := by decide +kernel
theorem dX2_bestAsking_46 : decode cX2_bestAsking 46 = .ok (.aload_n 0, 1) := by decide +kernel
theorem dX2_bestAsking_47 : decode cX2_bestAsking 47 = .ok (.lload_n 2, 1) := by decide +kernel
theorem dX2_bestAsking_48 : decode cX2_bestAsking 48 = .ok (.iload 6, 2) := by decide +kernel
theorem dX2_bestAsking_50 : decode cX2_bestAsking 50 = .ok (.iload 7, 2) := by decide +kernel
theorem dX2_bestAsking_52 : decode cX2_bestAsking 52 = .ok (.invokevirtual 246, 3) := by decide +kernel
theorem dX2_bestAsking_55 : decode cX2_bestAsking 55 = .ok (.istore 8, 2) := by decide +kernel
theorem dX2_bestAsking_57 : decode cX2_bestAsking 57 = .ok (.iload 4, 2) := by decide +kernel
theorem dX2_bestAsking_59 : decode cX2_bestAsking 59 = .ok (.bipush (-9), 2) := by decide +kernel
theorem dX2_bestAsking_61 : decode cX2_bestAsking 61 = .ok (.if_icmp .eq 10, 3) := by decide +kernel
theorem dX2_bestAsking_64 : decode cX2_bestAsking 64 = .ok (.iload 8, 2) := by decide +kernel
theorem dX2_bestAsking_66 : decode cX2_bestAsking 66 = .ok (.iload 5, 2) := by decide +kernel
theorem dX2_bestAsking_68 : decode cX2_bestAsking 68 = .ok (.if_icmp .ge 17, 3) := by decide +kernel
theorem dX2_bestAsking_71 : decode cX2_bestAsking 71 = .ok (.bipush 10, 2) := by decide +kernel
theorem dX2_bestAsking_73 : decode cX2_bestAsking 73 = .ok (.iload 6, 2) := by decide +kernel
theorem dX2_bestAsking_75 : decode cX2_bestAsking 75 = .ok (.imul, 1) := by decide +kernel
theorem dX2_bestAsking_76 : decode cX2_bestAsking 76 = .ok (.iload 7, 2) := by decide +kernel
theorem dX2_bestAsking_78 : decode cX2_bestAsking 78 = .ok (.iadd, 1) := by decide +kernel
theorem dX2_bestAsking_79 : decode cX2_bestAsking 79 = .ok (.istore 4, 2) := by decide +kernel
theorem dX2_bestAsking_81 : decode cX2_bestAsking 81 = .ok (.iload 8, 2) := by decide +kernel
theorem dX2_bestAsking_83 : decode cX2_bestAsking 83 = .ok (.istore 5, 2) := by decide +kernel
theorem dX2_bestAsking_85 : decode cX2_bestAsking 85 = .ok (.iinc 7 1, 3) := by decide +kernel
theorem dX2_bestAsking_88 : decode cX2_bestAsking 88 = .ok (.goto (-54), 3) := by decide +kernel
theorem dX2_bestAsking_91 : decode cX2_bestAsking 91 = .ok (.iinc 6 1, 3) := by decide +kernel
theorem dX2_bestAsking_94 : decode cX2_bestAsking 94 = .ok (.goto (-75), 3) := by decide +kernel
theorem dX2_bestAsking_97 : decode cX2_bestAsking 97 = .ok (.iload_n 1, 1) := by decide +kernel
theorem dX2_bestAsking_98 : decode cX2_bestAsking 98 = .ok (.ifCond .ne 8, 3) := by decide +kernel
theorem dX2_bestAsking_101 : decode cX2_bestAsking 101 = .ok (.iload 4, 2) := by decide +kernel
theorem dX2_bestAsking_103 : decode cX2_bestAsking 103 = .ok (.goto 5, 3) := by decide +kernel
theorem dX2_bestAsking_106 : decode cX2_bestAsking 106 = .ok (.iload 5, 2) := by decide +kernel
theorem dX2_bestAsking_108 : decode cX2_bestAsking 108 = .ok (.ireturn, 1) := by decide +kernel
set_option maxRecDepth 20000 in
theorem ggX2_worstLeft_X0_saying : GoodIn wsX2_worstLeft wsX0_saying := goodIn_r _ [11, 12, 13, 14, 15, 10, 16, 17, 18, 19, 20, 21, 22, 23, 24, 25, 26, 27, 28, 29, 30, 31, 32, 33, 34, 35, 36, 37, 38, 39, 40, 41, 42, 43, 44, 45, 46, 47, 48, 49, 50, 51, 68, 69, 70, 71, 72, 73, 74, 75, 76, 77, 78, 79, 80, 81, 82, 83, 84] (by decide +kernel) (by decide +kernel)
set_option maxRecDepth 20000 in
theorem gX2_worstLeft_X0_saying : GoodIn wsX2_worstLeft (wsV RX2 250 RX0 yX0_saying wsX0_saying) := goodIn_app (goodIn_of _ (by decide +kernel)) ggX2_worstLeft_X0_saying
set_option maxRecDepth 20000 in
theorem ggX2_worstLeft_J13_bitCount_95d88 : GoodIn wsX2_worstLeft wsJ13_bitCount_95d88 := goodIn_r _ [55, 56, 57, 58] (by decide +kernel) (by decide +kernel)
set_option maxRecDepth 20000 in
theorem gX2_worstLeft_J13_bitCount_95d88 : GoodIn wsX2_worstLeft (va_wsS RX2 169 yJ13_bitCount_95d88 wsJ13_bitCount_95d88) := goodIn_app (goodIn_of _ (by decide +kernel)) ggX2_worstLeft_J13_bitCount_95d88
theorem dX2_worstLeft_0 : decode cX2_worstLeft 0 = .ok (.iconst 0, 1) := by decide +kernel
theorem dX2_worstLeft_1 : decode cX2_worstLeft 1 = .ok (.istore 5, 2) := by decide +kernel
theorem dX2_worstLeft_3 : decode cX2_worstLeft 3 = .ok (.iconst 0, 1) := by decide +kernel
theorem dX2_worstLeft_4 : decode cX2_worstLeft 4 = .ok (.istore 6, 2) := by decide +kernel
theorem dX2_worstLeft_6 : decode cX2_worstLeft 6 = .ok (.iload 6, 2) := by decide +kernel
theorem dX2_worstLeft_8 : decode cX2_worstLeft 8 = .ok (.iconst 3, 1) := by decide +kernel
theorem dX2_worstLeft_9 : decode cX2_worstLeft 9 = .ok (.if_icmp .ge 46, 3) := by decide +kernel
theorem dX2_worstLeft_12 : decode cX2_worstLeft 12 = .ok (.aload_n 0, 1) := by decide +kernel
theorem dX2_worstLeft_13 : decode cX2_worstLeft 13 = .ok (.getfield 10, 3) := by decide +kernel
theorem dX2_worstLeft_16 : decode cX2_worstLeft 16 = .ok (.iload_n 3, 1) := by decide +kernel
theorem dX2_worstLeft_17 : decode cX2_worstLeft 17 = .ok (.iload 4, 2) := by decide +kernel
theorem dX2_worstLeft_19 : decode cX2_worstLeft 19 = .ok (.aload_n 0, 1) := by decide +kernel
theorem dX2_worstLeft_20 : decode cX2_worstLeft 20 = .ok (.getfield 10, 3) := by decide +kernel
theorem dX2_worstLeft_23 : decode cX2_worstLeft 23 = .ok (.getfield 90, 3) := by decide +kernel
theorem dX2_worstLeft_26 : decode cX2_worstLeft 26 = .ok (.iconst 1, 1) := by decide +kernel
theorem dX2_worstLeft_27 : decode cX2_worstLeft 27 = .ok (.iadd, 1) := by decide +kernel
theorem dX2_worstLeft_28 : decode cX2_worstLeft 28 = .ok (.iload 6, 2) := by decide +kernel
theorem dX2_worstLeft_30 : decode cX2_worstLeft 30 = .ok (.invokevirtual 250, 3) := by decide +kernel
theorem dX2_worstLeft_33 : decode cX2_worstLeft 33 = .ok (.lstore 7, 2) := by decide +kernel
theorem dX2_worstLeft_35 : decode cX2_worstLeft 35 = .ok (.iload 5, 2) := by decide +kernel
theorem dX2_worstLeft_37 : decode cX2_worstLeft 37 = .ok (.lload_n 1, 1) := by decide +kernel
theorem dX2_worstLeft_38 : decode cX2_worstLeft 38 = .ok (.lload 7, 2) := by decide +kernel
theorem dX2_worstLeft_40 : decode cX2_worstLeft 40 = .ok (.land, 1) := by decide +kernel
theorem dX2_worstLeft_41 : decode cX2_worstLeft 41 = .ok (.invokestatic 169, 3) := by decide +kernel
theorem dX2_worstLeft_44 : decode cX2_worstLeft 44 = .ok (.invokestatic 254, 3) := by decide +kernel
theorem dX2_worstLeft_47 : decode cX2_worstLeft 47 = .ok (.istore 5, 2) := by decide +kernel
theorem dX2_worstLeft_49 : decode cX2_worstLeft 49 = .ok (.iinc 6 1, 3) := by decide +kernel
theorem dX2_worstLeft_52 : decode cX2_worstLeft 52 = .ok (.goto (-46), 3) := by decide +kernel
theorem dX2_worstLeft_55 : decode cX2_worstLeft 55 = .ok (.iload 5, 2) := by decide +kernel
theorem dX2_worstLeft_57 : decode cX2_worstLeft 57 = .ok (.ireturn, 1) := by decide +kernel
set_option maxRecDepth 20000 in
theorem ggX2_fillKept_X0_keeping : GoodIn wsX2_fillKept wsX0_keeping := goodIn_r _ [9, 10, 11, 12, 13, 8, 14, 15, 16, 17, 18, 19, 20, 21, 22, 23, 24, 25, 26, 27, 28, 29, 30, 31, 32, 33, 34, 35, 36, 37, 38, 39, 40, 41, 42, 43, 44, 45, 46, 47, 48, 49, 50, 51, 52, 53, 54, 55, 56, 57, 58, 59, 60, 61, 71, 72, 73, 74, 75, 76, 77, 78, 79, 80, 81, 82, 83, 84, 85, 86, 87] (by decide +kernel) (by decide +kernel)
set_option maxRecDepth 20000 in
theorem gX2_fillKept_X0_keeping : GoodIn wsX2_fillKept (wsV RX2 259 RX0 yX0_keeping wsX0_keeping) := goodIn_app (goodIn_of _ (by decide +kernel)) ggX2_fillKept_X0_keeping
theorem dX2_fillKept_0 : decode cX2_fillKept 0 = .ok (.iconst 0, 1) := by decide +kernel
theorem dX2_fillKept_1 : decode cX2_fillKept 1 = .ok (.istore_n 2, 1) := by decide +kernel
theorem dX2_fillKept_2 : decode cX2_fillKept 2 = .ok (.iload_n 2, 1) := by decide +kernel
theorem dX2_fillKept_3 : decode cX2_fillKept 3 = .ok (.iconst 4, 1) := by decide +kernel
theorem dX2_fillKept_4 : decode cX2_fillKept 4 = .ok (.if_icmp .ge 59, 3) := by decide +kernel
theorem dX2_fillKept_7 : decode cX2_fillKept 7 = .ok (.iconst 0, 1) := by decide +kernel
theorem dX2_fillKept_8 : decode cX2_fillKept 8 = .ok (.istore_n 3, 1) := by decide +kernel
theorem dX2_fillKept_9 : decode cX2_fillKept 9 = .ok (.iload_n 3, 1) := by decide +kernel
theorem dX2_fillKept_10 : decode cX2_fillKept 10 = .ok (.aload_n 0, 1) := by decide +kernel
theorem dX2_fillKept_11 : decode cX2_fillKept 11 = .ok (.getfield 10, 3) := by decide +kernel
theorem dX2_fillKept_14 : decode cX2_fillKept 14 = .ok (.getfield 179, 3) := by decide +kernel
theorem dX2_fillKept_17 : decode cX2_fillKept 17 = .ok (.if_icmp .ge 40, 3) := by decide +kernel
theorem dX2_fillKept_20 : decode cX2_fillKept 20 = .ok (.aload_n 0, 1) := by decide +kernel
theorem dX2_fillKept_21 : decode cX2_fillKept 21 = .ok (.getfield 36, 3) := by decide +kernel
theorem dX2_fillKept_24 : decode cX2_fillKept 24 = .ok (.iload_n 2, 1) := by decide +kernel
theorem dX2_fillKept_25 : decode cX2_fillKept 25 = .ok (.bipush 8, 2) := by decide +kernel
theorem dX2_fillKept_27 : decode cX2_fillKept 27 = .ok (.imul, 1) := by decide +kernel
theorem dX2_fillKept_28 : decode cX2_fillKept 28 = .ok (.iload_n 3, 1) := by decide +kernel
theorem dX2_fillKept_29 : decode cX2_fillKept 29 = .ok (.iadd, 1) := by decide +kernel
theorem dX2_fillKept_30 : decode cX2_fillKept 30 = .ok (.aload_n 0, 1) := by decide +kernel
theorem dX2_fillKept_31 : decode cX2_fillKept 31 = .ok (.getfield 10, 3) := by decide +kernel
theorem dX2_fillKept_34 : decode cX2_fillKept 34 = .ok (.iload_n 1, 1) := by decide +kernel
theorem dX2_fillKept_35 : decode cX2_fillKept 35 = .ok (.iload_n 3, 1) := by decide +kernel
theorem dX2_fillKept_36 : decode cX2_fillKept 36 = .ok (.aload_n 0, 1) := by decide +kernel
theorem dX2_fillKept_37 : decode cX2_fillKept 37 = .ok (.getfield 10, 3) := by decide +kernel
theorem dX2_fillKept_40 : decode cX2_fillKept 40 = .ok (.getfield 90, 3) := by decide +kernel
theorem dX2_fillKept_43 : decode cX2_fillKept 43 = .ok (.iconst 1, 1) := by decide +kernel
theorem dX2_fillKept_44 : decode cX2_fillKept 44 = .ok (.iadd, 1) := by decide +kernel
theorem dX2_fillKept_45 : decode cX2_fillKept 45 = .ok (.iload_n 2, 1) := by decide +kernel
theorem dX2_fillKept_46 : decode cX2_fillKept 46 = .ok (.iadd, 1) := by decide +kernel
theorem dX2_fillKept_47 : decode cX2_fillKept 47 = .ok (.invokevirtual 259, 3) := by decide +kernel
theorem dX2_fillKept_50 : decode cX2_fillKept 50 = .ok (.lastore, 1) := by decide +kernel
theorem dX2_fillKept_51 : decode cX2_fillKept 51 = .ok (.iinc 3 1, 3) := by decide +kernel
theorem dX2_fillKept_54 : decode cX2_fillKept 54 = .ok (.goto (-45), 3) := by decide +kernel
theorem dX2_fillKept_57 : decode cX2_fillKept 57 = .ok (.iinc 2 1, 3) := by decide +kernel
theorem dX2_fillKept_60 : decode cX2_fillKept 60 = .ok (.goto (-58), 3) := by decide +kernel
theorem dX2_fillKept_63 : decode cX2_fillKept 63 = .ok (.return_, 1) := by decide +kernel
set_option maxRecDepth 20000 in
theorem ggX2_settling_X0_fitting : GoodIn wsX2_settling wsX0_fitting := goodIn_r _ [8, 9, 10, 11, 12, 13, 7, 14, 15, 16, 17, 18, 19, 20, 21, 22, 23, 24, 25, 26, 27, 28, 29, 30, 31, 32, 33, 34, 35, 36, 37, 38, 39, 40, 41, 42, 43, 44, 45, 46, 47, 48, 49, 50, 51, 52, 53, 54, 55, 56, 57, 58, 59, 60, 61, 62, 63, 64, 65, 98, 99, 100, 101, 102, 103, 104, 105, 106, 107, 108, 109, 110, 111, 112, 113, 114] (by decide +kernel) (by decide +kernel)
set_option maxRecDepth 20000 in
theorem gX2_settling_X0_fitting : GoodIn wsX2_settling (wsV RX2 122 RX0 yX0_fitting wsX0_fitting) := goodIn_app (goodIn_of _ (by decide +kernel)) ggX2_settling_X0_fitting
set_option maxRecDepth 20000 in
theorem ggX2_settling_X2_isSure : GoodIn wsX2_settling wsX2_isSure := goodIn_r _ [69] (by decide +kernel) (by decide +kernel)
set_option maxRecDepth 20000 in
theorem gX2_settling_X2_isSure : GoodIn wsX2_settling (va_wsS RX2 137 yX2_isSure wsX2_isSure) := goodIn_app (goodIn_of _ (by decide +kernel)) ggX2_settling_X2_isSure
set_option maxRecDepth 20000 in
theorem ggX2_settling_X2_fillKept : GoodIn wsX2_settling wsX2_fillKept := goodIn_r _ [73, 1, 2, 3, 74, 75, 76, 77, 7, 78, 79, 80, 81, 82, 83, 62, 63, 64, 65, 31, 9, 32, 33, 34, 35, 36, 37, 38, 39, 40, 41, 54, 55, 56, 57, 46, 47, 48, 49, 50, 51, 52, 53, 42, 43, 44, 45, 58, 59, 60, 61, 84, 68, 85, 27, 28, 29, 30, 23, 24, 25, 26, 89, 90, 91, 92, 93, 94, 95, 96, 97, 98, 99, 100, 101, 102, 103, 104, 105, 106, 107, 108, 109, 110, 111, 112, 113, 114] (by decide +kernel) (by decide +kernel)
set_option maxRecDepth 20000 in
theorem gX2_settling_X2_fillKept : GoodIn wsX2_settling (wsV RX2 194 RX2 yX2_fillKept wsX2_fillKept) := goodIn_app (goodIn_of _ (by decide +kernel)) ggX2_settling_X2_fillKept
set_option maxRecDepth 20000 in
theorem ggX2_settling_X2_waysSure : GoodIn wsX2_settling wsX2_waysSure := goodIn_r _ [88, 66, 67, 68, 69, 86, 87] (by decide +kernel) (by decide +kernel)
set_option maxRecDepth 20000 in
theorem gX2_settling_X2_waysSure : GoodIn wsX2_settling (va_wsS RX2 198 yX2_waysSure wsX2_waysSure) := goodIn_app (goodIn_of _ (by decide +kernel)) ggX2_settling_X2_waysSure
theorem dX2_settling_0 : decode cX2_settling 0 = .ok (.aload_n 0, 1) := by decide +kernel
theorem dX2_settling_1 : decode cX2_settling 1 = .ok (.getfield 10, 3) := by decide +kernel
theorem dX2_settling_4 : decode cX2_settling 4 = .ok (.invokevirtual 122, 3) := by decide +kernel
theorem dX2_settling_7 : decode cX2_settling 7 = .ok (.lstore 5, 2) := by decide +kernel
theorem dX2_settling_9 : decode cX2_settling 9 = .ok (.lload 5, 2) := by decide +kernel
theorem dX2_settling_11 : decode cX2_settling 11 = .ok (.lload_n 2, 1) := by decide +kernel
theorem dX2_settling_12 : decode cX2_settling 12 = .ok (.invokestatic 137, 3) := by decide +kernel
theorem dX2_settling_15 : decode cX2_settling 15 = .ok (.ifCond .eq 15, 3) := by decide +kernel
theorem dX2_settling_18 : decode cX2_settling 18 = .ok (.iload 4, 2) := by decide +kernel
theorem dX2_settling_20 : decode cX2_settling 20 = .ok (.ifCond .ne 7, 3) := by decide +kernel
theorem dX2_settling_23 : decode cX2_settling 23 = .ok (.iconst 0, 1) := by decide +kernel
theorem dX2_settling_24 : decode cX2_settling 24 = .ok (.goto 5, 3) := by decide +kernel
theorem dX2_settling_27 : decode cX2_settling 27 = .ok (.bipush (-9), 2) := by decide +kernel
theorem dX2_settling_29 : decode cX2_settling 29 = .ok (.ireturn, 1) := by decide +kernel
theorem dX2_settling_30 : decode cX2_settling 30 = .ok (.aload_n 0, 1) := by decide +kernel
theorem dX2_settling_31 : decode cX2_settling 31 = .ok (.iload_n 1, 1) := by decide +kernel
theorem dX2_settling_32 : decode cX2_settling 32 = .ok (.invokevirtual 194, 3) := by decide +kernel
theorem dX2_settling_35 : decode cX2_settling 35 = .ok (.iconst 1, 1) := by decide +kernel
theorem dX2_settling_36 : decode cX2_settling 36 = .ok (.istore 7, 2) := by decide +kernel
theorem dX2_settling_38 : decode cX2_settling 38 = .ok (.iload 7, 2) := by decide +kernel
theorem dX2_settling_40 : decode cX2_settling 40 = .ok (.iconst 3, 1) := by decide +kernel
theorem dX2_settling_41 : decode cX2_settling 41 = .ok (.if_icmp .gt 78, 3) := by decide +kernel
theorem dX2_settling_44 : decode cX2_settling 44 = .ok (.iconst 0, 1) := by decide +kernel
theorem dX2_settling_45 : decode cX2_settling 45 = .ok (.istore 8, 2) := by decide +kernel
theorem dX2_settling_47 : decode cX2_settling 47 = .ok (.iload 8, 2) := by decide +kernel
theorem dX2_settling_49 : decode cX2_settling 49 = .ok (.aload_n 0, 1) := by decide +kernel
theorem dX2_settling_50 : decode cX2_settling 50 = .ok (.getfield 10, 3) := by decide +kernel
theorem dX2_settling_53 : decode cX2_settling 53 = .ok (.getfield 179, 3) := by decide +kernel
theorem dX2_settling_56 : decode cX2_settling 56 = .ok (.if_icmp .ge 57, 3) := by decide +kernel
theorem dX2_settling_59 : decode cX2_settling 59 = .ok (.lload 5, 2) := by decide +kernel
theorem dX2_settling_61 : decode cX2_settling 61 = .ok (.aload_n 0, 1) := by decide +kernel
theorem dX2_settling_62 : decode cX2_settling 62 = .ok (.getfield 36, 3) := by decide +kernel
theorem dX2_settling_65 : decode cX2_settling 65 = .ok (.iload 8, 2) := by decide +kernel
theorem dX2_settling_67 : decode cX2_settling 67 = .ok (.laload, 1) := by decide +kernel
theorem dX2_settling_68 : decode cX2_settling 68 = .ok (.land, 1) := by decide +kernel
theorem dX2_settling_69 : decode cX2_settling 69 = .ok (.lstore 9, 2) := by decide +kernel
theorem dX2_settling_71 : decode cX2_settling 71 = .ok (.aload_n 0, 1) := by decide +kernel
theorem dX2_settling_72 : decode cX2_settling 72 = .ok (.getfield 36, 3) := by decide +kernel
theorem dX2_settling_75 : decode cX2_settling 75 = .ok (.aload_n 0, 1) := by decide +kernel
theorem dX2_settling_76 : decode cX2_settling 76 = .ok (.getfield 10, 3) := by decide +kernel
theorem dX2_settling_79 : decode cX2_settling 79 = .ok (.getfield 179, 3) := by decide +kernel
theorem dX2_settling_82 : decode cX2_settling 82 = .ok (.lload 9, 2) := by decide +kernel
theorem dX2_settling_84 : decode cX2_settling 84 = .ok (.lload_n 2, 1) := by decide +kernel
theorem dX2_settling_85 : decode cX2_settling 85 = .ok (.iconst 1, 1) := by decide +kernel
theorem dX2_settling_86 : decode cX2_settling 86 = .ok (.iload 7, 2) := by decide +kernel
theorem dX2_settling_88 : decode cX2_settling 88 = .ok (.invokestatic 198, 3) := by decide +kernel
theorem dX2_settling_91 : decode cX2_settling 91 = .ok (.ifCond .le 16, 3) := by decide +kernel
theorem dX2_settling_94 : decode cX2_settling 94 = .ok (.iload 4, 2) := by decide +kernel
theorem dX2_settling_96 : decode cX2_settling 96 = .ok (.ifCond .ne 8, 3) := by decide +kernel
theorem dX2_settling_99 : decode cX2_settling 99 = .ok (.iload 7, 2) := by decide +kernel
theorem dX2_settling_101 : decode cX2_settling 101 = .ok (.goto 5, 3) := by decide +kernel
theorem dX2_settling_104 : decode cX2_settling 104 = .ok (.iload 8, 2) := by decide +kernel
theorem dX2_settling_106 : decode cX2_settling 106 = .ok (.ireturn, 1) := by decide +kernel
theorem dX2_settling_107 : decode cX2_settling 107 = .ok (.iinc 8 1, 3) := by decide +kernel
theorem dX2_settling_110 : decode cX2_settling 110 = .ok (.goto (-63), 3) := by decide +kernel
theorem dX2_settling_113 : decode cX2_settling 113 = .ok (.iinc 7 1, 3) := by decide +kernel
theorem dX2_settling_116 : decode cX2_settling 116 = .ok (.goto (-78), 3) := by decide +kernel
theorem dX2_settling_119 : decode cX2_settling 119 = .ok (.bipush (-9), 2) := by decide +kernel
theorem dX2_settling_121 : decode cX2_settling 121 = .ok (.ireturn, 1) := by decide +kernel
set_option maxRecDepth 20000 in
theorem ggX2_waysSure_X2_isSure : GoodIn wsX2_waysSure wsX2_isSure := goodIn_r _ [4] (by decide +kernel) (by decide +kernel)
set_option maxRecDepth 20000 in
theorem gX2_waysSure_X2_isSure : GoodIn wsX2_waysSure (va_wsS RX2 137 yX2_isSure wsX2_isSure) := goodIn_app (goodIn_of _ (by decide +kernel)) ggX2_waysSure_X2_isSure
set_option maxRecDepth 20000 in
theorem ggX2_waysSure_X2_waysSure : GoodIn wsX2_waysSure wsX2_waysSure := goodIn_r _ [0, 1, 2, 3, 4, 5, 6] (by decide +kernel) (by decide +kernel)
set_option maxRecDepth 20000 in
theorem gX2_waysSure_X2_waysSure : GoodIn wsX2_waysSure (va_wsS RX2 198 yX2_waysSure wsX2_waysSure) := goodIn_app (goodIn_of _ (by decide +kernel)) ggX2_waysSure_X2_waysSure
theorem dX2_waysSure_0 : decode cX2_waysSure 0 = .ok (.iload 6, 2) := by decide +kernel
theorem dX2_waysSure_2 : decode cX2_waysSure 2 = .ok (.iload 7, 2) := by decide +kernel
theorem dX2_waysSure_4 : decode cX2_waysSure 4 = .ok (.if_icmp .ge 9, 3) := by decide +kernel
theorem dX2_waysSure_7 : decode cX2_waysSure 7 = .ok (.iload 6, 2) := by decide +kernel
theorem dX2_waysSure_9 : decode cX2_waysSure 9 = .ok (.iconst 4, 1) := by decide +kernel
theorem dX2_waysSure_10 : decode cX2_waysSure 10 = .ok (.if_icmp .lt 18, 3) := by decide +kernel
theorem dX2_waysSure_13 : decode cX2_waysSure 13 = .ok (.lload_n 2, 1) := by decide +kernel
theorem dX2_waysSure_14 : decode cX2_waysSure 14 = .ok (.lload 4, 2) := by decide +kernel
theorem dX2_waysSure_16 : decode cX2_waysSure 16 = .ok (.invokestatic 137, 3) := by decide +kernel
theorem dX2_waysSure_19 : decode cX2_waysSure 19 = .ok (.ifCond .eq 7, 3) := by decide +kernel
theorem dX2_waysSure_22 : decode cX2_waysSure 22 = .ok (.iconst 1, 1) := by decide +kernel
theorem dX2_waysSure_23 : decode cX2_waysSure 23 = .ok (.goto 4, 3) := by decide +kernel
theorem dX2_waysSure_26 : decode cX2_waysSure 26 = .ok (.iconst 0, 1) := by decide +kernel
theorem dX2_waysSure_27 : decode cX2_waysSure 27 = .ok (.ireturn, 1) := by decide +kernel
theorem dX2_waysSure_28 : decode cX2_waysSure 28 = .ok (.iconst 0, 1) := by decide +kernel
theorem dX2_waysSure_29 : decode cX2_waysSure 29 = .ok (.istore 8, 2) := by decide +kernel
theorem dX2_waysSure_31 : decode cX2_waysSure 31 = .ok (.iconst 0, 1) := by decide +kernel
theorem dX2_waysSure_32 : decode cX2_waysSure 32 = .ok (.istore 9, 2) := by decide +kernel
theorem dX2_waysSure_34 : decode cX2_waysSure 34 = .ok (.iload 9, 2) := by decide +kernel
theorem dX2_waysSure_36 : decode cX2_waysSure 36 = .ok (.iload_n 1, 1) := by decide +kernel
theorem dX2_waysSure_37 : decode cX2_waysSure 37 = .ok (.if_icmp .ge 43, 3) := by decide +kernel
theorem dX2_waysSure_40 : decode cX2_waysSure 40 = .ok (.lload_n 2, 1) := by decide +kernel
theorem dX2_waysSure_41 : decode cX2_waysSure 41 = .ok (.aload_n 0, 1) := by decide +kernel
theorem dX2_waysSure_42 : decode cX2_waysSure 42 = .ok (.iload 6, 2) := by decide +kernel
theorem dX2_waysSure_44 : decode cX2_waysSure 44 = .ok (.bipush 8, 2) := by decide +kernel
theorem dX2_waysSure_46 : decode cX2_waysSure 46 = .ok (.imul, 1) := by decide +kernel
theorem dX2_waysSure_47 : decode cX2_waysSure 47 = .ok (.iload 9, 2) := by decide +kernel
theorem dX2_waysSure_49 : decode cX2_waysSure 49 = .ok (.iadd, 1) := by decide +kernel
theorem dX2_waysSure_50 : decode cX2_waysSure 50 = .ok (.laload, 1) := by decide +kernel
theorem dX2_waysSure_51 : decode cX2_waysSure 51 = .ok (.land, 1) := by decide +kernel
theorem dX2_waysSure_52 : decode cX2_waysSure 52 = .ok (.lstore 10, 2) := by decide +kernel
theorem dX2_waysSure_54 : decode cX2_waysSure 54 = .ok (.iload 8, 2) := by decide +kernel
theorem dX2_waysSure_56 : decode cX2_waysSure 56 = .ok (.aload_n 0, 1) := by decide +kernel
theorem dX2_waysSure_57 : decode cX2_waysSure 57 = .ok (.iload_n 1, 1) := by decide +kernel
theorem dX2_waysSure_58 : decode cX2_waysSure 58 = .ok (.lload 10, 2) := by decide +kernel
theorem dX2_waysSure_60 : decode cX2_waysSure 60 = .ok (.lload 4, 2) := by decide +kernel
theorem dX2_waysSure_62 : decode cX2_waysSure 62 = .ok (.iload 6, 2) := by decide +kernel
theorem dX2_waysSure_64 : decode cX2_waysSure 64 = .ok (.iconst 1, 1) := by decide +kernel
theorem dX2_waysSure_65 : decode cX2_waysSure 65 = .ok (.iadd, 1) := by decide +kernel
theorem dX2_waysSure_66 : decode cX2_waysSure 66 = .ok (.iload 7, 2) := by decide +kernel
theorem dX2_waysSure_68 : decode cX2_waysSure 68 = .ok (.invokestatic 198, 3) := by decide +kernel
theorem dX2_waysSure_71 : decode cX2_waysSure 71 = .ok (.iadd, 1) := by decide +kernel
theorem dX2_waysSure_72 : decode cX2_waysSure 72 = .ok (.istore 8, 2) := by decide +kernel
theorem dX2_waysSure_74 : decode cX2_waysSure 74 = .ok (.iinc 9 1, 3) := by decide +kernel
theorem dX2_waysSure_77 : decode cX2_waysSure 77 = .ok (.goto (-43), 3) := by decide +kernel
theorem dX2_waysSure_80 : decode cX2_waysSure 80 = .ok (.iload 8, 2) := by decide +kernel
theorem dX2_waysSure_82 : decode cX2_waysSure 82 = .ok (.ireturn, 1) := by decide +kernel
set_option maxRecDepth 20000 in
theorem ggX2_isHidden_X0_reply : GoodIn wsX2_isHidden wsX0_reply := goodIn_r _ [9, 10, 11, 12, 8, 13, 14, 15, 16, 17, 18, 19, 20, 21, 22, 23, 24, 25, 26, 27, 28, 29, 30, 31, 32, 33, 34, 35, 36, 37, 38, 39, 40, 41, 42, 43, 44, 45, 46, 47, 48, 49, 50, 51, 52, 62, 63, 64, 65, 66, 67, 68, 69, 70, 71, 72, 73, 74, 75, 76, 77, 78] (by decide +kernel) (by decide +kernel)
set_option maxRecDepth 20000 in
theorem gX2_isHidden_X0_reply : GoodIn wsX2_isHidden (wsV RX2 115 RX0 yX0_reply wsX0_reply) := goodIn_app (goodIn_of _ (by decide +kernel)) ggX2_isHidden_X0_reply
theorem dX2_isHidden_0 : decode cX2_isHidden 0 = .ok (.iconst 0, 1) := by decide +kernel
theorem dX2_isHidden_1 : decode cX2_isHidden 1 = .ok (.istore_n 2, 1) := by decide +kernel
theorem dX2_isHidden_2 : decode cX2_isHidden 2 = .ok (.iload_n 2, 1) := by decide +kernel
theorem dX2_isHidden_3 : decode cX2_isHidden 3 = .ok (.aload_n 0, 1) := by decide +kernel
theorem dX2_isHidden_4 : decode cX2_isHidden 4 = .ok (.getfield 10, 3) := by decide +kernel
theorem dX2_isHidden_7 : decode cX2_isHidden 7 = .ok (.getfield 152, 3) := by decide +kernel
theorem dX2_isHidden_10 : decode cX2_isHidden 10 = .ok (.if_icmp .ge 40, 3) := by decide +kernel
theorem dX2_isHidden_13 : decode cX2_isHidden 13 = .ok (.aload_n 0, 1) := by decide +kernel
theorem dX2_isHidden_14 : decode cX2_isHidden 14 = .ok (.getfield 10, 3) := by decide +kernel
theorem dX2_isHidden_17 : decode cX2_isHidden 17 = .ok (.iload_n 2, 1) := by decide +kernel
theorem dX2_isHidden_18 : decode cX2_isHidden 18 = .ok (.iload_n 1, 1) := by decide +kernel
theorem dX2_isHidden_19 : decode cX2_isHidden 19 = .ok (.aload_n 0, 1) := by decide +kernel
theorem dX2_isHidden_20 : decode cX2_isHidden 20 = .ok (.getfield 10, 3) := by decide +kernel
theorem dX2_isHidden_23 : decode cX2_isHidden 23 = .ok (.getfield 90, 3) := by decide +kernel
theorem dX2_isHidden_26 : decode cX2_isHidden 26 = .ok (.iconst 1, 1) := by decide +kernel
theorem dX2_isHidden_27 : decode cX2_isHidden 27 = .ok (.iadd, 1) := by decide +kernel
theorem dX2_isHidden_28 : decode cX2_isHidden 28 = .ok (.aload_n 0, 1) := by decide +kernel
theorem dX2_isHidden_29 : decode cX2_isHidden 29 = .ok (.getfield 10, 3) := by decide +kernel
theorem dX2_isHidden_32 : decode cX2_isHidden 32 = .ok (.getfield 60, 3) := by decide +kernel
theorem dX2_isHidden_35 : decode cX2_isHidden 35 = .ok (.invokevirtual 115, 3) := by decide +kernel
theorem dX2_isHidden_38 : decode cX2_isHidden 38 = .ok (.iconst 2, 1) := by decide +kernel
theorem dX2_isHidden_39 : decode cX2_isHidden 39 = .ok (.if_icmp .eq 5, 3) := by decide +kernel
theorem dX2_isHidden_42 : decode cX2_isHidden 42 = .ok (.iconst 0, 1) := by decide +kernel
theorem dX2_isHidden_43 : decode cX2_isHidden 43 = .ok (.ireturn, 1) := by decide +kernel
theorem dX2_isHidden_44 : decode cX2_isHidden 44 = .ok (.iinc 2 1, 3) := by decide +kernel
theorem dX2_isHidden_47 : decode cX2_isHidden 47 = .ok (.goto (-45), 3) := by decide +kernel
theorem dX2_isHidden_50 : decode cX2_isHidden 50 = .ok (.iconst 1, 1) := by decide +kernel
theorem dX2_isHidden_51 : decode cX2_isHidden 51 = .ok (.ireturn, 1) := by decide +kernel
set_option maxRecDepth 20000 in
theorem ggX2_samePairs_X0_truthOf : GoodIn wsX2_samePairs wsX0_truthOf := goodIn_r _ [7, 8, 9, 10, 11, 6, 12, 13, 23, 24, 25, 26, 27, 28, 29, 30, 31, 32, 33, 34, 35, 36, 37, 38, 39] (by decide +kernel) (by decide +kernel)
set_option maxRecDepth 20000 in
theorem gX2_samePairs_X0_truthOf : GoodIn wsX2_samePairs (wsV RX2 188 RX0 yX0_truthOf wsX0_truthOf) := goodIn_app (goodIn_of _ (by decide +kernel)) ggX2_samePairs_X0_truthOf
theorem dX2_samePairs_0 : decode cX2_samePairs 0 = .ok (.iconst 0, 1) := by decide +kernel
theorem dX2_samePairs_1 : decode cX2_samePairs 1 = .ok (.istore_n 2, 1) := by decide +kernel
theorem dX2_samePairs_2 : decode cX2_samePairs 2 = .ok (.bipush (-9), 2) := by decide +kernel
theorem dX2_samePairs_4 : decode cX2_samePairs 4 = .ok (.istore_n 3, 1) := by decide +kernel
theorem dX2_samePairs_5 : decode cX2_samePairs 5 = .ok (.iconst 0, 1) := by decide +kernel
theorem dX2_samePairs_6 : decode cX2_samePairs 6 = .ok (.istore 4, 2) := by decide +kernel
theorem dX2_samePairs_8 : decode cX2_samePairs 8 = .ok (.iload 4, 2) := by decide +kernel
theorem dX2_samePairs_10 : decode cX2_samePairs 10 = .ok (.aload_n 0, 1) := by decide +kernel
theorem dX2_samePairs_11 : decode cX2_samePairs 11 = .ok (.getfield 10, 3) := by decide +kernel
theorem dX2_samePairs_14 : decode cX2_samePairs 14 = .ok (.getfield 179, 3) := by decide +kernel
theorem dX2_samePairs_17 : decode cX2_samePairs 17 = .ok (.if_icmp .ge 75, 3) := by decide +kernel
theorem dX2_samePairs_20 : decode cX2_samePairs 20 = .ok (.iload 4, 2) := by decide +kernel
theorem dX2_samePairs_22 : decode cX2_samePairs 22 = .ok (.iconst 1, 1) := by decide +kernel
theorem dX2_samePairs_23 : decode cX2_samePairs 23 = .ok (.iadd, 1) := by decide +kernel
theorem dX2_samePairs_24 : decode cX2_samePairs 24 = .ok (.istore 5, 2) := by decide +kernel
theorem dX2_samePairs_26 : decode cX2_samePairs 26 = .ok (.iload 5, 2) := by decide +kernel
theorem dX2_samePairs_28 : decode cX2_samePairs 28 = .ok (.aload_n 0, 1) := by decide +kernel
theorem dX2_samePairs_29 : decode cX2_samePairs 29 = .ok (.getfield 10, 3) := by decide +kernel
theorem dX2_samePairs_32 : decode cX2_samePairs 32 = .ok (.getfield 179, 3) := by decide +kernel
theorem dX2_samePairs_35 : decode cX2_samePairs 35 = .ok (.if_icmp .ge 51, 3) := by decide +kernel
theorem dX2_samePairs_38 : decode cX2_samePairs 38 = .ok (.aload_n 0, 1) := by decide +kernel
theorem dX2_samePairs_39 : decode cX2_samePairs 39 = .ok (.getfield 10, 3) := by decide +kernel
theorem dX2_samePairs_42 : decode cX2_samePairs 42 = .ok (.iload 4, 2) := by decide +kernel
theorem dX2_samePairs_44 : decode cX2_samePairs 44 = .ok (.invokevirtual 188, 3) := by decide +kernel
theorem dX2_samePairs_47 : decode cX2_samePairs 47 = .ok (.aload_n 0, 1) := by decide +kernel
theorem dX2_samePairs_48 : decode cX2_samePairs 48 = .ok (.getfield 10, 3) := by decide +kernel
theorem dX2_samePairs_51 : decode cX2_samePairs 51 = .ok (.iload 5, 2) := by decide +kernel
theorem dX2_samePairs_53 : decode cX2_samePairs 53 = .ok (.invokevirtual 188, 3) := by decide +kernel
theorem dX2_samePairs_56 : decode cX2_samePairs 56 = .ok (.lcmp, 1) := by decide +kernel
theorem dX2_samePairs_57 : decode cX2_samePairs 57 = .ok (.ifCond .ne 23, 3) := by decide +kernel
theorem dX2_samePairs_60 : decode cX2_samePairs 60 = .ok (.iload_n 2, 1) := by decide +kernel
theorem dX2_samePairs_61 : decode cX2_samePairs 61 = .ok (.ifCond .ne 14, 3) := by decide +kernel
theorem dX2_samePairs_64 : decode cX2_samePairs 64 = .ok (.bipush 10, 2) := by decide +kernel
theorem dX2_samePairs_66 : decode cX2_samePairs 66 = .ok (.iload 4, 2) := by decide +kernel
theorem dX2_samePairs_68 : decode cX2_samePairs 68 = .ok (.imul, 1) := by decide +kernel
theorem dX2_samePairs_69 : decode cX2_samePairs 69 = .ok (.iload 5, 2) := by decide +kernel
theorem dX2_samePairs_71 : decode cX2_samePairs 71 = .ok (.iadd, 1) := by decide +kernel
theorem dX2_samePairs_72 : decode cX2_samePairs 72 = .ok (.goto 4, 3) := by decide +kernel
theorem dX2_samePairs_75 : decode cX2_samePairs 75 = .ok (.iload_n 3, 1) := by decide +kernel
theorem dX2_samePairs_76 : decode cX2_samePairs 76 = .ok (.istore_n 3, 1) := by decide +kernel
theorem dX2_samePairs_77 : decode cX2_samePairs 77 = .ok (.iinc 2 1, 3) := by decide +kernel
theorem dX2_samePairs_80 : decode cX2_samePairs 80 = .ok (.iinc 5 1, 3) := by decide +kernel
theorem dX2_samePairs_83 : decode cX2_samePairs 83 = .ok (.goto (-57), 3) := by decide +kernel
theorem dX2_samePairs_86 : decode cX2_samePairs 86 = .ok (.iinc 4 1, 3) := by decide +kernel
theorem dX2_samePairs_89 : decode cX2_samePairs 89 = .ok (.goto (-81), 3) := by decide +kernel
theorem dX2_samePairs_92 : decode cX2_samePairs 92 = .ok (.iload_n 1, 1) := by decide +kernel
theorem dX2_samePairs_93 : decode cX2_samePairs 93 = .ok (.ifCond .ne 7, 3) := by decide +kernel
theorem dX2_samePairs_96 : decode cX2_samePairs 96 = .ok (.iload_n 2, 1) := by decide +kernel
theorem dX2_samePairs_97 : decode cX2_samePairs 97 = .ok (.goto 4, 3) := by decide +kernel
theorem dX2_samePairs_100 : decode cX2_samePairs 100 = .ok (.iload_n 3, 1) := by decide +kernel
theorem dX2_samePairs_101 : decode cX2_samePairs 101 = .ok (.ireturn, 1) := by decide +kernel
set_option maxRecDepth 20000 in
theorem ggX2_settledPair_X0_fitting : GoodIn wsX2_settledPair wsX0_fitting := goodIn_r _ [6, 7, 8, 9, 10, 11, 5, 12, 13, 14, 15, 16, 17, 18, 19, 20, 21, 22, 23, 24, 25, 26, 27, 28, 29, 30, 31, 32, 33, 34, 35, 36, 37, 38, 39, 40, 41, 42, 43, 44, 45, 46, 47, 48, 49, 50, 51, 52, 53, 54, 55, 56, 57, 58, 59, 60, 61, 62, 63, 98, 99, 100, 101, 102, 103, 104, 105, 106, 107, 108, 109, 110, 111, 112, 113, 114] (by decide +kernel) (by decide +kernel)
set_option maxRecDepth 20000 in
theorem gX2_settledPair_X0_fitting : GoodIn wsX2_settledPair (wsV RX2 122 RX0 yX0_fitting wsX0_fitting) := goodIn_app (goodIn_of _ (by decide +kernel)) ggX2_settledPair_X0_fitting
set_option maxRecDepth 20000 in
theorem ggX2_settledPair_X0_onward : GoodIn wsX2_settledPair wsX0_onward := goodIn_r _ [59, 39, 98, 99, 100, 101, 102, 103, 104, 105, 106, 107, 108, 109, 110, 111, 112, 113, 114] (by decide +kernel) (by decide +kernel)
set_option maxRecDepth 20000 in
theorem gX2_settledPair_X0_onward : GoodIn wsX2_settledPair (wsV RX2 262 RX0 yX0_onward wsX0_onward) := goodIn_app (goodIn_of _ (by decide +kernel)) ggX2_settledPair_X0_onward
set_option maxRecDepth 20000 in
theorem ggX2_settledPair_X2_leftBehind : GoodIn wsX2_settledPair wsX2_leftBehind := goodIn_r _ [69, 1, 70, 71, 72, 73, 5, 74, 75, 76, 77, 78, 79, 60, 61, 62, 63, 29, 7, 30, 31, 32, 33, 34, 35, 36, 37, 38, 39, 52, 53, 54, 55, 44, 45, 46, 47, 48, 49, 50, 51, 40, 41, 42, 43, 56, 57, 58, 59, 80, 68, 81, 25, 26, 27, 28, 21, 22, 23, 24, 82, 83, 84, 85, 86, 87, 88, 89, 90, 91, 92, 93, 94, 95, 96, 97, 98, 99, 100, 101, 102, 103, 104, 105, 106, 107, 108, 109, 110, 111, 112, 113, 114] (by decide +kernel) (by decide +kernel)
set_option maxRecDepth 20000 in
theorem gX2_settledPair_X2_leftBehind : GoodIn wsX2_settledPair (wsV RX2 265 RX2 yX2_leftBehind wsX2_leftBehind) := goodIn_app (goodIn_of _ (by decide +kernel)) ggX2_settledPair_X2_leftBehind
theorem dX2_settledPair_0 : decode cX2_settledPair 0 = .ok (.aload_n 0, 1) := by decide +kernel
theorem dX2_settledPair_1 : decode cX2_settledPair 1 = .ok (.getfield 10, 3) := by decide +kernel
theorem dX2_settledPair_4 : decode cX2_settledPair 4 = .ok (.invokevirtual 122, 3) := by decide +kernel
theorem dX2_settledPair_7 : decode cX2_settledPair 7 = .ok (.lstore 4, 2) := by decide +kernel
theorem dX2_settledPair_9 : decode cX2_settledPair 9 = .ok (.iconst 0, 1) := by decide +kernel
theorem dX2_settledPair_10 : decode cX2_settledPair 10 = .ok (.istore 6, 2) := by decide +kernel
theorem dX2_settledPair_12 : decode cX2_settledPair 12 = .ok (.iload 6, 2) := by decide +kernel
theorem dX2_settledPair_14 : decode cX2_settledPair 14 = .ok (.iconst 2, 1) := by decide +kernel
theorem dX2_settledPair_15 : decode cX2_settledPair 15 = .ok (.if_icmp .ge 130, 3) := by decide +kernel
theorem dX2_settledPair_18 : decode cX2_settledPair 18 = .ok (.iconst 0, 1) := by decide +kernel
theorem dX2_settledPair_19 : decode cX2_settledPair 19 = .ok (.istore 7, 2) := by decide +kernel
theorem dX2_settledPair_21 : decode cX2_settledPair 21 = .ok (.iload 7, 2) := by decide +kernel
theorem dX2_settledPair_23 : decode cX2_settledPair 23 = .ok (.iconst 2, 1) := by decide +kernel
theorem dX2_settledPair_24 : decode cX2_settledPair 24 = .ok (.if_icmp .ge 115, 3) := by decide +kernel
theorem dX2_settledPair_27 : decode cX2_settledPair 27 = .ok (.aload_n 0, 1) := by decide +kernel
theorem dX2_settledPair_28 : decode cX2_settledPair 28 = .ok (.getfield 10, 3) := by decide +kernel
theorem dX2_settledPair_31 : decode cX2_settledPair 31 = .ok (.iload_n 2, 1) := by decide +kernel
theorem dX2_settledPair_32 : decode cX2_settledPair 32 = .ok (.iload 6, 2) := by decide +kernel
theorem dX2_settledPair_34 : decode cX2_settledPair 34 = .ok (.invokevirtual 262, 3) := by decide +kernel
theorem dX2_settledPair_37 : decode cX2_settledPair 37 = .ok (.istore 8, 2) := by decide +kernel
theorem dX2_settledPair_39 : decode cX2_settledPair 39 = .ok (.aload_n 0, 1) := by decide +kernel
theorem dX2_settledPair_40 : decode cX2_settledPair 40 = .ok (.getfield 10, 3) := by decide +kernel
theorem dX2_settledPair_43 : decode cX2_settledPair 43 = .ok (.iload_n 3, 1) := by decide +kernel
theorem dX2_settledPair_44 : decode cX2_settledPair 44 = .ok (.iload 7, 2) := by decide +kernel
theorem dX2_settledPair_46 : decode cX2_settledPair 46 = .ok (.invokevirtual 262, 3) := by decide +kernel
theorem dX2_settledPair_49 : decode cX2_settledPair 49 = .ok (.istore 9, 2) := by decide +kernel
theorem dX2_settledPair_51 : decode cX2_settledPair 51 = .ok (.aload_n 0, 1) := by decide +kernel
theorem dX2_settledPair_52 : decode cX2_settledPair 52 = .ok (.lload 4, 2) := by decide +kernel
theorem dX2_settledPair_54 : decode cX2_settledPair 54 = .ok (.iload_n 1, 1) := by decide +kernel
theorem dX2_settledPair_55 : decode cX2_settledPair 55 = .ok (.iload 8, 2) := by decide +kernel
theorem dX2_settledPair_57 : decode cX2_settledPair 57 = .ok (.iload 9, 2) := by decide +kernel
theorem dX2_settledPair_59 : decode cX2_settledPair 59 = .ok (.invokevirtual 265, 3) := by decide +kernel
theorem dX2_settledPair_62 : decode cX2_settledPair 62 = .ok (.istore 10, 2) := by decide +kernel
theorem dX2_settledPair_64 : decode cX2_settledPair 64 = .ok (.aload_n 0, 1) := by decide +kernel
theorem dX2_settledPair_65 : decode cX2_settledPair 65 = .ok (.lload 4, 2) := by decide +kernel
theorem dX2_settledPair_67 : decode cX2_settledPair 67 = .ok (.iload_n 1, 1) := by decide +kernel
theorem dX2_settledPair_68 : decode cX2_settledPair 68 = .ok (.aload_n 0, 1) := by decide +kernel
theorem dX2_settledPair_69 : decode cX2_settledPair 69 = .ok (.getfield 10, 3) := by decide +kernel
theorem dX2_settledPair_72 : decode cX2_settledPair 72 = .ok (.iload_n 2, 1) := by decide +kernel
theorem dX2_settledPair_73 : decode cX2_settledPair 73 = .ok (.iconst 1, 1) := by decide +kernel
theorem dX2_settledPair_74 : decode cX2_settledPair 74 = .ok (.iload 6, 2) := by decide +kernel
theorem dX2_settledPair_76 : decode cX2_settledPair 76 = .ok (.isub, 1) := by decide +kernel
theorem dX2_settledPair_77 : decode cX2_settledPair 77 = .ok (.invokevirtual 262, 3) := by decide +kernel
theorem dX2_settledPair_80 : decode cX2_settledPair 80 = .ok (.iload 9, 2) := by decide +kernel
theorem dX2_settledPair_82 : decode cX2_settledPair 82 = .ok (.invokevirtual 265, 3) := by decide +kernel
theorem dX2_settledPair_85 : decode cX2_settledPair 85 = .ok (.istore 11, 2) := by decide +kernel
theorem dX2_settledPair_87 : decode cX2_settledPair 87 = .ok (.aload_n 0, 1) := by decide +kernel
theorem dX2_settledPair_88 : decode cX2_settledPair 88 = .ok (.lload 4, 2) := by decide +kernel
theorem dX2_settledPair_90 : decode cX2_settledPair 90 = .ok (.iload_n 1, 1) := by decide +kernel
theorem dX2_settledPair_91 : decode cX2_settledPair 91 = .ok (.iload 8, 2) := by decide +kernel
theorem dX2_settledPair_93 : decode cX2_settledPair 93 = .ok (.aload_n 0, 1) := by decide +kernel
theorem dX2_settledPair_94 : decode cX2_settledPair 94 = .ok (.getfield 10, 3) := by decide +kernel
theorem dX2_settledPair_97 : decode cX2_settledPair 97 = .ok (.iload_n 3, 1) := by decide +kernel
theorem dX2_settledPair_98 : decode cX2_settledPair 98 = .ok (.iconst 1, 1) := by decide +kernel
theorem dX2_settledPair_99 : decode cX2_settledPair 99 = .ok (.iload 7, 2) := by decide +kernel
theorem dX2_settledPair_101 : decode cX2_settledPair 101 = .ok (.isub, 1) := by decide +kernel
theorem dX2_settledPair_102 : decode cX2_settledPair 102 = .ok (.invokevirtual 262, 3) := by decide +kernel
theorem dX2_settledPair_105 : decode cX2_settledPair 105 = .ok (.invokevirtual 265, 3) := by decide +kernel
theorem dX2_settledPair_108 : decode cX2_settledPair 108 = .ok (.istore 12, 2) := by decide +kernel
theorem dX2_settledPair_110 : decode cX2_settledPair 110 = .ok (.iload 11, 2) := by decide +kernel
theorem dX2_settledPair_112 : decode cX2_settledPair 112 = .ok (.iload 10, 2) := by decide +kernel
theorem dX2_settledPair_114 : decode cX2_settledPair 114 = .ok (.if_icmp .gt 19, 3) := by decide +kernel
theorem dX2_settledPair_117 : decode cX2_settledPair 117 = .ok (.iload 12, 2) := by decide +kernel
theorem dX2_settledPair_119 : decode cX2_settledPair 119 = .ok (.iload 10, 2) := by decide +kernel
theorem dX2_settledPair_121 : decode cX2_settledPair 121 = .ok (.if_icmp .lt 12, 3) := by decide +kernel
theorem dX2_settledPair_124 : decode cX2_settledPair 124 = .ok (.bipush 10, 2) := by decide +kernel
theorem dX2_settledPair_126 : decode cX2_settledPair 126 = .ok (.iload 6, 2) := by decide +kernel
theorem dX2_settledPair_128 : decode cX2_settledPair 128 = .ok (.imul, 1) := by decide +kernel
theorem dX2_settledPair_129 : decode cX2_settledPair 129 = .ok (.iload 7, 2) := by decide +kernel
theorem dX2_settledPair_131 : decode cX2_settledPair 131 = .ok (.iadd, 1) := by decide +kernel
theorem dX2_settledPair_132 : decode cX2_settledPair 132 = .ok (.ireturn, 1) := by decide +kernel
theorem dX2_settledPair_133 : decode cX2_settledPair 133 = .ok (.iinc 7 1, 3) := by decide +kernel
theorem dX2_settledPair_136 : decode cX2_settledPair 136 = .ok (.goto (-115), 3) := by decide +kernel
theorem dX2_settledPair_139 : decode cX2_settledPair 139 = .ok (.iinc 6 1, 3) := by decide +kernel
theorem dX2_settledPair_142 : decode cX2_settledPair 142 = .ok (.goto (-130), 3) := by decide +kernel
theorem dX2_settledPair_145 : decode cX2_settledPair 145 = .ok (.bipush (-9), 2) := by decide +kernel
theorem dX2_settledPair_147 : decode cX2_settledPair 147 = .ok (.ireturn, 1) := by decide +kernel
set_option maxRecDepth 20000 in
theorem ggX2_leftBehind_X0_keeping : GoodIn wsX2_leftBehind wsX0_keeping := goodIn_r _ [7, 8, 9, 10, 11, 6, 12, 13, 14, 15, 16, 17, 18, 19, 20, 21, 22, 23, 24, 25, 26, 27, 28, 29, 30, 31, 32, 33, 34, 35, 36, 37, 38, 39, 40, 41, 42, 43, 44, 45, 46, 47, 48, 49, 50, 51, 52, 53, 54, 55, 56, 57, 58, 59, 76, 77, 78, 79, 80, 81, 82, 83, 84, 85, 86, 87, 88, 89, 90, 91, 92] (by decide +kernel) (by decide +kernel)
set_option maxRecDepth 20000 in
theorem gX2_leftBehind_X0_keeping : GoodIn wsX2_leftBehind (wsV RX2 259 RX0 yX0_keeping wsX0_keeping) := goodIn_app (goodIn_of _ (by decide +kernel)) ggX2_leftBehind_X0_keeping
set_option maxRecDepth 20000 in
theorem ggX2_leftBehind_J13_bitCount_95d88 : GoodIn wsX2_leftBehind wsJ13_bitCount_95d88 := goodIn_r _ [63, 64, 65, 66] (by decide +kernel) (by decide +kernel)
set_option maxRecDepth 20000 in
theorem gX2_leftBehind_J13_bitCount_95d88 : GoodIn wsX2_leftBehind (va_wsS RX2 169 yJ13_bitCount_95d88 wsJ13_bitCount_95d88) := goodIn_app (goodIn_of _ (by decide +kernel)) ggX2_leftBehind_J13_bitCount_95d88
theorem dX2_leftBehind_0 : decode cX2_leftBehind 0 = .ok (.lload_n 1, 1) := by decide +kernel
theorem dX2_leftBehind_1 : decode cX2_leftBehind 1 = .ok (.aload_n 0, 1) := by decide +kernel
theorem dX2_leftBehind_2 : decode cX2_leftBehind 2 = .ok (.getfield 10, 3) := by decide +kernel
theorem dX2_leftBehind_5 : decode cX2_leftBehind 5 = .ok (.iload_n 3, 1) := by decide +kernel
theorem dX2_leftBehind_6 : decode cX2_leftBehind 6 = .ok (.iload 4, 2) := by decide +kernel
theorem dX2_leftBehind_8 : decode cX2_leftBehind 8 = .ok (.aload_n 0, 1) := by decide +kernel
theorem dX2_leftBehind_9 : decode cX2_leftBehind 9 = .ok (.getfield 10, 3) := by decide +kernel
theorem dX2_leftBehind_12 : decode cX2_leftBehind 12 = .ok (.getfield 90, 3) := by decide +kernel
theorem dX2_leftBehind_15 : decode cX2_leftBehind 15 = .ok (.iconst 1, 1) := by decide +kernel
theorem dX2_leftBehind_16 : decode cX2_leftBehind 16 = .ok (.iadd, 1) := by decide +kernel
theorem dX2_leftBehind_17 : decode cX2_leftBehind 17 = .ok (.invokevirtual 259, 3) := by decide +kernel
theorem dX2_leftBehind_20 : decode cX2_leftBehind 20 = .ok (.land, 1) := by decide +kernel
theorem dX2_leftBehind_21 : decode cX2_leftBehind 21 = .ok (.aload_n 0, 1) := by decide +kernel
theorem dX2_leftBehind_22 : decode cX2_leftBehind 22 = .ok (.getfield 10, 3) := by decide +kernel
theorem dX2_leftBehind_25 : decode cX2_leftBehind 25 = .ok (.iload_n 3, 1) := by decide +kernel
theorem dX2_leftBehind_26 : decode cX2_leftBehind 26 = .ok (.iload 5, 2) := by decide +kernel
theorem dX2_leftBehind_28 : decode cX2_leftBehind 28 = .ok (.aload_n 0, 1) := by decide +kernel
theorem dX2_leftBehind_29 : decode cX2_leftBehind 29 = .ok (.getfield 10, 3) := by decide +kernel
theorem dX2_leftBehind_32 : decode cX2_leftBehind 32 = .ok (.getfield 90, 3) := by decide +kernel
theorem dX2_leftBehind_35 : decode cX2_leftBehind 35 = .ok (.iconst 2, 1) := by decide +kernel
theorem dX2_leftBehind_36 : decode cX2_leftBehind 36 = .ok (.iadd, 1) := by decide +kernel
theorem dX2_leftBehind_37 : decode cX2_leftBehind 37 = .ok (.invokevirtual 259, 3) := by decide +kernel
theorem dX2_leftBehind_40 : decode cX2_leftBehind 40 = .ok (.land, 1) := by decide +kernel
theorem dX2_leftBehind_41 : decode cX2_leftBehind 41 = .ok (.invokestatic 169, 3) := by decide +kernel
theorem dX2_leftBehind_44 : decode cX2_leftBehind 44 = .ok (.ireturn, 1) := by decide +kernel
set_option maxRecDepth 20000 in
theorem ggX2_kindsByRow_X0_becomes : GoodIn wsX2_kindsByRow wsX0_becomes := goodIn_r _ [8, 9, 10, 11, 12, 13, 14, 15, 16, 17, 18, 19, 20, 21, 22, 23, 24, 25, 26, 27, 28, 29, 87, 88, 89, 90, 91, 92, 93, 94, 95, 96, 97, 98, 99, 100, 101, 102, 103] (by decide +kernel) (by decide +kernel)
set_option maxRecDepth 20000 in
theorem gX2_kindsByRow_X0_becomes : GoodIn wsX2_kindsByRow (wsV RX2 217 RX0 yX0_becomes wsX0_becomes) := goodIn_app (goodIn_of _ (by decide +kernel)) ggX2_kindsByRow_X0_becomes
set_option maxRecDepth 20000 in
theorem ggX2_kindsByRow_X2_isByRow : GoodIn wsX2_kindsByRow wsX2_isByRow := goodIn_r _ [34, 35, 1, 36, 37, 38, 39, 40, 41, 7, 42, 43, 44, 45, 46, 23, 47, 48, 49, 50, 51, 12, 52, 53, 54, 55, 11, 56, 57, 58, 59, 21, 25, 22, 60, 61, 62, 63, 24, 64, 65, 66, 67, 68, 69, 70, 71, 72, 33, 73, 74, 75, 76, 77, 78, 79, 80, 81, 82, 83, 84, 85, 86, 87, 88, 89, 90, 91, 92, 93, 94, 95, 96, 97, 98, 99, 100, 101, 102, 103] (by decide +kernel) (by decide +kernel)
set_option maxRecDepth 20000 in
theorem gX2_kindsByRow_X2_isByRow : GoodIn wsX2_kindsByRow (wsV RX2 269 RX2 yX2_isByRow wsX2_isByRow) := goodIn_app (goodIn_of _ (by decide +kernel)) ggX2_kindsByRow_X2_isByRow
theorem dX2_kindsByRow_0 : decode cX2_kindsByRow 0 = .ok (.aload_n 0, 1) := by decide +kernel
theorem dX2_kindsByRow_1 : decode cX2_kindsByRow 1 = .ok (.getfield 19, 3) := by decide +kernel
theorem dX2_kindsByRow_4 : decode cX2_kindsByRow 4 = .ok (.aload_n 0, 1) := by decide +kernel
theorem dX2_kindsByRow_5 : decode cX2_kindsByRow 5 = .ok (.getfield 10, 3) := by decide +kernel
theorem dX2_kindsByRow_8 : decode cX2_kindsByRow 8 = .ok (.invokevirtual 217, 3) := by decide +kernel
theorem dX2_kindsByRow_11 : decode cX2_kindsByRow 11 = .ok (.iconst 0, 1) := by decide +kernel
theorem dX2_kindsByRow_12 : decode cX2_kindsByRow 12 = .ok (.istore_n 2, 1) := by decide +kernel
theorem dX2_kindsByRow_13 : decode cX2_kindsByRow 13 = .ok (.iconst 0, 1) := by decide +kernel
theorem dX2_kindsByRow_14 : decode cX2_kindsByRow 14 = .ok (.istore_n 3, 1) := by decide +kernel
theorem dX2_kindsByRow_15 : decode cX2_kindsByRow 15 = .ok (.iload_n 3, 1) := by decide +kernel
theorem dX2_kindsByRow_16 : decode cX2_kindsByRow 16 = .ok (.bipush 6, 2) := by decide +kernel
theorem dX2_kindsByRow_18 : decode cX2_kindsByRow 18 = .ok (.if_icmp .ge 33, 3) := by decide +kernel
theorem dX2_kindsByRow_21 : decode cX2_kindsByRow 21 = .ok (.aload_n 0, 1) := by decide +kernel
theorem dX2_kindsByRow_22 : decode cX2_kindsByRow 22 = .ok (.getfield 19, 3) := by decide +kernel
theorem dX2_kindsByRow_25 : decode cX2_kindsByRow 25 = .ok (.getfield 81, 3) := by decide +kernel
theorem dX2_kindsByRow_28 : decode cX2_kindsByRow 28 = .ok (.iload_n 1, 1) := by decide +kernel
theorem dX2_kindsByRow_29 : decode cX2_kindsByRow 29 = .ok (.iload_n 3, 1) := by decide +kernel
theorem dX2_kindsByRow_30 : decode cX2_kindsByRow 30 = .ok (.iastore, 1) := by decide +kernel
theorem dX2_kindsByRow_31 : decode cX2_kindsByRow 31 = .ok (.aload_n 0, 1) := by decide +kernel
theorem dX2_kindsByRow_32 : decode cX2_kindsByRow 32 = .ok (.iload_n 1, 1) := by decide +kernel
theorem dX2_kindsByRow_33 : decode cX2_kindsByRow 33 = .ok (.invokevirtual 269, 3) := by decide +kernel
theorem dX2_kindsByRow_36 : decode cX2_kindsByRow 36 = .ok (.ifCond .eq 9, 3) := by decide +kernel
theorem dX2_kindsByRow_39 : decode cX2_kindsByRow 39 = .ok (.iload_n 2, 1) := by decide +kernel
theorem dX2_kindsByRow_40 : decode cX2_kindsByRow 40 = .ok (.iconst 1, 1) := by decide +kernel
theorem dX2_kindsByRow_41 : decode cX2_kindsByRow 41 = .ok (.iload_n 3, 1) := by decide +kernel
theorem dX2_kindsByRow_42 : decode cX2_kindsByRow 42 = .ok (.ishl, 1) := by decide +kernel
theorem dX2_kindsByRow_43 : decode cX2_kindsByRow 43 = .ok (.ior, 1) := by decide +kernel
theorem dX2_kindsByRow_44 : decode cX2_kindsByRow 44 = .ok (.istore_n 2, 1) := by decide +kernel
theorem dX2_kindsByRow_45 : decode cX2_kindsByRow 45 = .ok (.iinc 3 1, 3) := by decide +kernel
theorem dX2_kindsByRow_48 : decode cX2_kindsByRow 48 = .ok (.goto (-33), 3) := by decide +kernel
theorem dX2_kindsByRow_51 : decode cX2_kindsByRow 51 = .ok (.iload_n 2, 1) := by decide +kernel
theorem dX2_kindsByRow_52 : decode cX2_kindsByRow 52 = .ok (.ireturn, 1) := by decide +kernel
set_option maxRecDepth 20000 in
theorem ggX2_knownByRow_X0_becomes : GoodIn wsX2_knownByRow wsX0_becomes := goodIn_r _ [8, 9, 10, 11, 12, 13, 14, 15, 16, 17, 18, 19, 20, 21, 22, 23, 24, 25, 26, 27, 28, 29, 87, 88, 89, 90, 91, 92, 93, 94, 95, 96, 97, 98, 99, 100, 101, 102, 103] (by decide +kernel) (by decide +kernel)
set_option maxRecDepth 20000 in
theorem gX2_knownByRow_X0_becomes : GoodIn wsX2_knownByRow (wsV RX2 217 RX0 yX0_becomes wsX0_becomes) := goodIn_app (goodIn_of _ (by decide +kernel)) ggX2_knownByRow_X0_becomes
set_option maxRecDepth 20000 in
theorem ggX2_knownByRow_X2_isByRow : GoodIn wsX2_knownByRow wsX2_isByRow := goodIn_r _ [34, 35, 1, 36, 37, 38, 39, 40, 41, 7, 42, 43, 44, 45, 46, 23, 47, 48, 49, 50, 51, 12, 52, 53, 54, 55, 11, 56, 57, 58, 59, 21, 25, 22, 60, 61, 62, 63, 24, 64, 65, 66, 67, 68, 69, 70, 71, 72, 33, 73, 74, 75, 76, 77, 78, 79, 80, 81, 82, 83, 84, 85, 86, 87, 88, 89, 90, 91, 92, 93, 94, 95, 96, 97, 98, 99, 100, 101, 102, 103] (by decide +kernel) (by decide +kernel)
set_option maxRecDepth 20000 in
theorem gX2_knownByRow_X2_isByRow : GoodIn wsX2_knownByRow (wsV RX2 269 RX2 yX2_isByRow wsX2_isByRow) := goodIn_app (goodIn_of _ (by decide +kernel)) ggX2_knownByRow_X2_isByRow
theorem dX2_knownByRow_0 : decode cX2_knownByRow 0 = .ok (.aload_n 0, 1) := by decide +kernel
theorem dX2_knownByRow_1 : decode cX2_knownByRow 1 = .ok (.getfield 19, 3) := by decide +kernel
theorem dX2_knownByRow_4 : decode cX2_knownByRow 4 = .ok (.aload_n 0, 1) := by decide +kernel
theorem dX2_knownByRow_5 : decode cX2_knownByRow 5 = .ok (.getfield 10, 3) := by decide +kernel
theorem dX2_knownByRow_8 : decode cX2_knownByRow 8 = .ok (.invokevirtual 217, 3) := by decide +kernel
theorem dX2_knownByRow_11 : decode cX2_knownByRow 11 = .ok (.iconst 0, 1) := by decide +kernel
theorem dX2_knownByRow_12 : decode cX2_knownByRow 12 = .ok (.istore_n 2, 1) := by decide +kernel
theorem dX2_knownByRow_13 : decode cX2_knownByRow 13 = .ok (.iconst 0, 1) := by decide +kernel
theorem dX2_knownByRow_14 : decode cX2_knownByRow 14 = .ok (.istore_n 3, 1) := by decide +kernel
theorem dX2_knownByRow_15 : decode cX2_knownByRow 15 = .ok (.iload_n 3, 1) := by decide +kernel
theorem dX2_knownByRow_16 : decode cX2_knownByRow 16 = .ok (.bipush 63, 2) := by decide +kernel
theorem dX2_knownByRow_18 : decode cX2_knownByRow 18 = .ok (.if_icmp .gt 30, 3) := by decide +kernel
theorem dX2_knownByRow_21 : decode cX2_knownByRow 21 = .ok (.aload_n 0, 1) := by decide +kernel
theorem dX2_knownByRow_22 : decode cX2_knownByRow 22 = .ok (.getfield 19, 3) := by decide +kernel
theorem dX2_knownByRow_25 : decode cX2_knownByRow 25 = .ok (.getfield 87, 3) := by decide +kernel
theorem dX2_knownByRow_28 : decode cX2_knownByRow 28 = .ok (.iload_n 1, 1) := by decide +kernel
theorem dX2_knownByRow_29 : decode cX2_knownByRow 29 = .ok (.iload_n 3, 1) := by decide +kernel
theorem dX2_knownByRow_30 : decode cX2_knownByRow 30 = .ok (.iastore, 1) := by decide +kernel
theorem dX2_knownByRow_31 : decode cX2_knownByRow 31 = .ok (.aload_n 0, 1) := by decide +kernel
theorem dX2_knownByRow_32 : decode cX2_knownByRow 32 = .ok (.iload_n 1, 1) := by decide +kernel
theorem dX2_knownByRow_33 : decode cX2_knownByRow 33 = .ok (.invokevirtual 269, 3) := by decide +kernel
theorem dX2_knownByRow_36 : decode cX2_knownByRow 36 = .ok (.ifCond .eq 6, 3) := by decide +kernel
theorem dX2_knownByRow_39 : decode cX2_knownByRow 39 = .ok (.iinc 2 1, 3) := by decide +kernel
theorem dX2_knownByRow_42 : decode cX2_knownByRow 42 = .ok (.iinc 3 1, 3) := by decide +kernel
theorem dX2_knownByRow_45 : decode cX2_knownByRow 45 = .ok (.goto (-30), 3) := by decide +kernel
theorem dX2_knownByRow_48 : decode cX2_knownByRow 48 = .ok (.iload_n 2, 1) := by decide +kernel
theorem dX2_knownByRow_49 : decode cX2_knownByRow 49 = .ok (.ireturn, 1) := by decide +kernel
set_option maxRecDepth 20000 in
theorem ggX2_isByRow_X0_reply : GoodIn wsX2_isByRow wsX0_reply := goodIn_r _ [10, 11, 12, 13, 9, 14, 15, 16, 17, 18, 19, 20, 21, 22, 23, 24, 25, 26, 27, 28, 29, 30, 31, 32, 33, 34, 35, 36, 37, 38, 39, 40, 41, 42, 43, 44, 45, 46, 47, 48, 49, 50, 51, 52, 53, 63, 64, 65, 66, 67, 68, 69, 70, 71, 72, 73, 74, 75, 76, 77, 78, 79] (by decide +kernel) (by decide +kernel)
set_option maxRecDepth 20000 in
theorem gX2_isByRow_X0_reply : GoodIn wsX2_isByRow (wsV RX2 115 RX0 yX0_reply wsX0_reply) := goodIn_app (goodIn_of _ (by decide +kernel)) ggX2_isByRow_X0_reply
theorem dX2_isByRow_0 : decode cX2_isByRow 0 = .ok (.iconst 0, 1) := by decide +kernel
theorem dX2_isByRow_1 : decode cX2_isByRow 1 = .ok (.istore_n 2, 1) := by decide +kernel
theorem dX2_isByRow_2 : decode cX2_isByRow 2 = .ok (.iload_n 2, 1) := by decide +kernel
theorem dX2_isByRow_3 : decode cX2_isByRow 3 = .ok (.aload_n 0, 1) := by decide +kernel
theorem dX2_isByRow_4 : decode cX2_isByRow 4 = .ok (.getfield 202, 3) := by decide +kernel
theorem dX2_isByRow_7 : decode cX2_isByRow 7 = .ok (.if_icmp .ge 47, 3) := by decide +kernel
theorem dX2_isByRow_10 : decode cX2_isByRow 10 = .ok (.aload_n 0, 1) := by decide +kernel
theorem dX2_isByRow_11 : decode cX2_isByRow 11 = .ok (.getfield 19, 3) := by decide +kernel
theorem dX2_isByRow_14 : decode cX2_isByRow 14 = .ok (.iload_n 1, 1) := by decide +kernel
theorem dX2_isByRow_15 : decode cX2_isByRow 15 = .ok (.iload_n 2, 1) := by decide +kernel
theorem dX2_isByRow_16 : decode cX2_isByRow 16 = .ok (.aload_n 0, 1) := by decide +kernel
theorem dX2_isByRow_17 : decode cX2_isByRow 17 = .ok (.getfield 19, 3) := by decide +kernel
theorem dX2_isByRow_20 : decode cX2_isByRow 20 = .ok (.getfield 90, 3) := by decide +kernel
theorem dX2_isByRow_23 : decode cX2_isByRow 23 = .ok (.iconst 1, 1) := by decide +kernel
theorem dX2_isByRow_24 : decode cX2_isByRow 24 = .ok (.iadd, 1) := by decide +kernel
theorem dX2_isByRow_25 : decode cX2_isByRow 25 = .ok (.aload_n 0, 1) := by decide +kernel
theorem dX2_isByRow_26 : decode cX2_isByRow 26 = .ok (.getfield 19, 3) := by decide +kernel
theorem dX2_isByRow_29 : decode cX2_isByRow 29 = .ok (.getfield 60, 3) := by decide +kernel
theorem dX2_isByRow_32 : decode cX2_isByRow 32 = .ok (.invokevirtual 115, 3) := by decide +kernel
theorem dX2_isByRow_35 : decode cX2_isByRow 35 = .ok (.istore_n 3, 1) := by decide +kernel
theorem dX2_isByRow_36 : decode cX2_isByRow 36 = .ok (.iload_n 3, 1) := by decide +kernel
theorem dX2_isByRow_37 : decode cX2_isByRow 37 = .ok (.aload_n 0, 1) := by decide +kernel
theorem dX2_isByRow_38 : decode cX2_isByRow 38 = .ok (.getfield 29, 3) := by decide +kernel
theorem dX2_isByRow_41 : decode cX2_isByRow 41 = .ok (.iload_n 2, 1) := by decide +kernel
theorem dX2_isByRow_42 : decode cX2_isByRow 42 = .ok (.iaload, 1) := by decide +kernel
theorem dX2_isByRow_43 : decode cX2_isByRow 43 = .ok (.if_icmp .eq 5, 3) := by decide +kernel
theorem dX2_isByRow_46 : decode cX2_isByRow 46 = .ok (.iconst 0, 1) := by decide +kernel
theorem dX2_isByRow_47 : decode cX2_isByRow 47 = .ok (.ireturn, 1) := by decide +kernel
theorem dX2_isByRow_48 : decode cX2_isByRow 48 = .ok (.iinc 2 1, 3) := by decide +kernel
theorem dX2_isByRow_51 : decode cX2_isByRow 51 = .ok (.goto (-49), 3) := by decide +kernel
theorem dX2_isByRow_54 : decode cX2_isByRow 54 = .ok (.iconst 1, 1) := by decide +kernel
theorem dX2_isByRow_55 : decode cX2_isByRow 55 = .ok (.ireturn, 1) := by decide +kernel
set_option maxRecDepth 20000 in
theorem ggX2_firstWrongInRow_X0_hasPlace : GoodIn wsX2_firstWrongInRow wsX0_hasPlace := goodIn_r _ [9, 10, 20, 21, 22, 23, 24, 25, 26, 27, 28, 29, 30, 31, 32, 33, 34, 35, 36] (by decide +kernel) (by decide +kernel)
set_option maxRecDepth 20000 in
theorem gX2_firstWrongInRow_X0_hasPlace : GoodIn wsX2_firstWrongInRow (wsV RX2 97 RX0 yX0_hasPlace wsX0_hasPlace) := goodIn_app (goodIn_of _ (by decide +kernel)) ggX2_firstWrongInRow_X0_hasPlace
theorem dX2_firstWrongInRow_0 : decode cX2_firstWrongInRow 0 = .ok (.iconst 0, 1) := by decide +kernel
theorem dX2_firstWrongInRow_1 : decode cX2_firstWrongInRow 1 = .ok (.istore_n 1, 1) := by decide +kernel
theorem dX2_firstWrongInRow_2 : decode cX2_firstWrongInRow 2 = .ok (.iload_n 1, 1) := by decide +kernel
theorem dX2_firstWrongInRow_3 : decode cX2_firstWrongInRow 3 = .ok (.aload_n 0, 1) := by decide +kernel
theorem dX2_firstWrongInRow_4 : decode cX2_firstWrongInRow 4 = .ok (.getfield 202, 3) := by decide +kernel
theorem dX2_firstWrongInRow_7 : decode cX2_firstWrongInRow 7 = .ok (.if_icmp .ge 40, 3) := by decide +kernel
theorem dX2_firstWrongInRow_10 : decode cX2_firstWrongInRow 10 = .ok (.aload_n 0, 1) := by decide +kernel
theorem dX2_firstWrongInRow_11 : decode cX2_firstWrongInRow 11 = .ok (.getfield 10, 3) := by decide +kernel
theorem dX2_firstWrongInRow_14 : decode cX2_firstWrongInRow 14 = .ok (.iload_n 1, 1) := by decide +kernel
theorem dX2_firstWrongInRow_15 : decode cX2_firstWrongInRow 15 = .ok (.invokevirtual 97, 3) := by decide +kernel
theorem dX2_firstWrongInRow_18 : decode cX2_firstWrongInRow 18 = .ok (.ifCond .eq 21, 3) := by decide +kernel
theorem dX2_firstWrongInRow_21 : decode cX2_firstWrongInRow 21 = .ok (.aload_n 0, 1) := by decide +kernel
theorem dX2_firstWrongInRow_22 : decode cX2_firstWrongInRow 22 = .ok (.getfield 10, 3) := by decide +kernel
theorem dX2_firstWrongInRow_25 : decode cX2_firstWrongInRow 25 = .ok (.getfield 106, 3) := by decide +kernel
theorem dX2_firstWrongInRow_28 : decode cX2_firstWrongInRow 28 = .ok (.iload_n 1, 1) := by decide +kernel
theorem dX2_firstWrongInRow_29 : decode cX2_firstWrongInRow 29 = .ok (.iaload, 1) := by decide +kernel
theorem dX2_firstWrongInRow_30 : decode cX2_firstWrongInRow 30 = .ok (.aload_n 0, 1) := by decide +kernel
theorem dX2_firstWrongInRow_31 : decode cX2_firstWrongInRow 31 = .ok (.getfield 29, 3) := by decide +kernel
theorem dX2_firstWrongInRow_34 : decode cX2_firstWrongInRow 34 = .ok (.iload_n 1, 1) := by decide +kernel
theorem dX2_firstWrongInRow_35 : decode cX2_firstWrongInRow 35 = .ok (.iaload, 1) := by decide +kernel
theorem dX2_firstWrongInRow_36 : decode cX2_firstWrongInRow 36 = .ok (.if_icmp .eq 5, 3) := by decide +kernel
theorem dX2_firstWrongInRow_39 : decode cX2_firstWrongInRow 39 = .ok (.iload_n 1, 1) := by decide +kernel
theorem dX2_firstWrongInRow_40 : decode cX2_firstWrongInRow 40 = .ok (.ireturn, 1) := by decide +kernel
theorem dX2_firstWrongInRow_41 : decode cX2_firstWrongInRow 41 = .ok (.iinc 1 1, 3) := by decide +kernel
theorem dX2_firstWrongInRow_44 : decode cX2_firstWrongInRow 44 = .ok (.goto (-42), 3) := by decide +kernel
theorem dX2_firstWrongInRow_47 : decode cX2_firstWrongInRow 47 = .ok (.bipush (-9), 2) := by decide +kernel
theorem dX2_firstWrongInRow_49 : decode cX2_firstWrongInRow 49 = .ok (.ireturn, 1) := by decide +kernel
set_option maxRecDepth 20000 in
theorem ggX2_sessions_X0_becomes : GoodIn wsX2_sessions wsX0_becomes := goodIn_r _ [9, 10, 11, 12, 13, 14, 15, 16, 17, 18, 19, 20, 21, 22, 23, 24, 25, 26, 27, 28, 29, 30, 120, 121, 122, 123, 124, 125, 126, 127, 128, 129, 130, 131, 132, 133, 134, 135, 136] (by decide +kernel) (by decide +kernel)
set_option maxRecDepth 20000 in
theorem gX2_sessions_X0_becomes : GoodIn wsX2_sessions (wsV RX2 217 RX0 yX0_becomes wsX0_becomes) := goodIn_app (goodIn_of _ (by decide +kernel)) ggX2_sessions_X0_becomes
set_option maxRecDepth 20000 in
theorem ggX2_sessions_X2_drawOn : GoodIn wsX2_sessions wsX2_drawOn := goodIn_r _ [34, 35, 36] (by decide +kernel) (by decide +kernel)
set_option maxRecDepth 20000 in
theorem gX2_sessions_X2_drawOn : GoodIn wsX2_sessions (va_wsS RX2 272 yX2_drawOn wsX2_drawOn) := goodIn_app (goodIn_of _ (by decide +kernel)) ggX2_sessions_X2_drawOn
set_option maxRecDepth 20000 in
theorem ggX2_sessions_X2_drawBelow : GoodIn wsX2_sessions wsX2_drawBelow := goodIn_r _ [39, 40] (by decide +kernel) (by decide +kernel)
set_option maxRecDepth 20000 in
theorem gX2_sessions_X2_drawBelow : GoodIn wsX2_sessions (va_wsS RX2 275 yX2_drawBelow wsX2_drawBelow) := goodIn_app (goodIn_of _ (by decide +kernel)) ggX2_sessions_X2_drawBelow
set_option maxRecDepth 20000 in
theorem ggX2_sessions_X0_ask : GoodIn wsX2_sessions wsX0_ask := goodIn_r _ [44, 11, 10, 14, 27, 28, 29, 30, 45, 46, 47, 8, 48, 49, 50, 51, 52, 24, 53, 54, 55, 56, 57, 13, 58, 59, 60, 61, 12, 62, 63, 64, 65, 22, 26, 23, 66, 67, 68, 69, 25, 70, 71, 72, 73, 74, 75, 76, 77, 78, 33, 79, 80, 81, 82, 83, 84, 85, 86, 87, 16, 17, 18, 19, 120, 121, 122, 123, 124, 125, 126, 127, 128, 129, 130, 131, 132, 133, 134, 135, 136] (by decide +kernel) (by decide +kernel)
set_option maxRecDepth 20000 in
theorem gX2_sessions_X0_ask : GoodIn wsX2_sessions (wsV RX2 93 RX0 yX0_ask wsX0_ask) := goodIn_app (goodIn_of _ (by decide +kernel)) ggX2_sessions_X0_ask
set_option maxRecDepth 20000 in
theorem ggX2_sessions_X0_fitting : GoodIn wsX2_sessions wsX0_fitting := goodIn_r _ [91, 53, 14, 92, 93, 94, 8, 95, 27, 28, 30, 29, 96, 97, 98, 99, 100, 101, 102, 103, 80, 81, 82, 83, 24, 54, 55, 56, 57, 13, 58, 59, 60, 61, 12, 70, 71, 72, 73, 22, 26, 23, 66, 67, 68, 69, 25, 62, 63, 64, 65, 74, 75, 76, 77, 49, 50, 51, 52, 120, 121, 122, 123, 124, 125, 126, 127, 128, 129, 130, 131, 132, 133, 134, 135, 136] (by decide +kernel) (by decide +kernel)
set_option maxRecDepth 20000 in
theorem gX2_sessions_X0_fitting : GoodIn wsX2_sessions (wsV RX2 122 RX0 yX0_fitting wsX0_fitting) := goodIn_app (goodIn_of _ (by decide +kernel)) ggX2_sessions_X0_fitting
set_option maxRecDepth 20000 in
theorem ggX2_sessions_J13_bitCount_95d88 : GoodIn wsX2_sessions wsJ13_bitCount_95d88 := goodIn_r _ [107, 108, 109, 110] (by decide +kernel) (by decide +kernel)
set_option maxRecDepth 20000 in
theorem gX2_sessions_J13_bitCount_95d88 : GoodIn wsX2_sessions (va_wsS RX2 169 yJ13_bitCount_95d88 wsJ13_bitCount_95d88) := goodIn_app (goodIn_of _ (by decide +kernel)) ggX2_sessions_J13_bitCount_95d88
theorem dX2_sessions_0 : decode cX2_sessions 0 = .ok (.iload_n 2, 1) := by decide +kernel
theorem dX2_sessions_1 : decode cX2_sessions 1 = .ok (.istore 4, 2) := by decide +kernel
theorem dX2_sessions_3 : decode cX2_sessions 3 = .ok (.iconst 0, 1) := by decide +kernel
theorem dX2_sessions_4 : decode cX2_sessions 4 = .ok (.istore 5, 2) := by decide +kernel
theorem dX2_sessions_6 : decode cX2_sessions 6 = .ok (.iconst 0, 1) := by decide +kernel
theorem dX2_sessions_7 : decode cX2_sessions 7 = .ok (.istore 6, 2) := by decide +kernel
theorem dX2_sessions_9 : decode cX2_sessions 9 = .ok (.iconst 0, 1) := by decide +kernel
theorem dX2_sessions_10 : decode cX2_sessions 10 = .ok (.istore 7, 2) := by decide +kernel
theorem dX2_sessions_12 : decode cX2_sessions 12 = .ok (.iload 7, 2) := by decide +kernel
theorem dX2_sessions_14 : decode cX2_sessions 14 = .ok (.iload_n 1, 1) := by decide +kernel
theorem dX2_sessions_15 : decode cX2_sessions 15 = .ok (.if_icmp .ge 107, 3) := by decide +kernel
theorem dX2_sessions_18 : decode cX2_sessions 18 = .ok (.aload_n 0, 1) := by decide +kernel
theorem dX2_sessions_19 : decode cX2_sessions 19 = .ok (.getfield 19, 3) := by decide +kernel
theorem dX2_sessions_22 : decode cX2_sessions 22 = .ok (.aload_n 0, 1) := by decide +kernel
theorem dX2_sessions_23 : decode cX2_sessions 23 = .ok (.getfield 10, 3) := by decide +kernel
theorem dX2_sessions_26 : decode cX2_sessions 26 = .ok (.invokevirtual 217, 3) := by decide +kernel
theorem dX2_sessions_29 : decode cX2_sessions 29 = .ok (.iconst 0, 1) := by decide +kernel
theorem dX2_sessions_30 : decode cX2_sessions 30 = .ok (.istore 8, 2) := by decide +kernel
theorem dX2_sessions_32 : decode cX2_sessions 32 = .ok (.iload 8, 2) := by decide +kernel
theorem dX2_sessions_34 : decode cX2_sessions 34 = .ok (.bipush 6, 2) := by decide +kernel
theorem dX2_sessions_36 : decode cX2_sessions 36 = .ok (.if_icmp .ge 65, 3) := by decide +kernel
theorem dX2_sessions_39 : decode cX2_sessions 39 = .ok (.iload 4, 2) := by decide +kernel
theorem dX2_sessions_41 : decode cX2_sessions 41 = .ok (.invokestatic 272, 3) := by decide +kernel
theorem dX2_sessions_44 : decode cX2_sessions 44 = .ok (.istore 4, 2) := by decide +kernel
theorem dX2_sessions_46 : decode cX2_sessions 46 = .ok (.iload 4, 2) := by decide +kernel
theorem dX2_sessions_48 : decode cX2_sessions 48 = .ok (.aload_n 0, 1) := by decide +kernel
theorem dX2_sessions_49 : decode cX2_sessions 49 = .ok (.getfield 10, 3) := by decide +kernel
theorem dX2_sessions_52 : decode cX2_sessions 52 = .ok (.getfield 152, 3) := by decide +kernel
theorem dX2_sessions_55 : decode cX2_sessions 55 = .ok (.invokestatic 275, 3) := by decide +kernel
theorem dX2_sessions_58 : decode cX2_sessions 58 = .ok (.istore 9, 2) := by decide +kernel
theorem dX2_sessions_60 : decode cX2_sessions 60 = .ok (.iload 4, 2) := by decide +kernel
theorem dX2_sessions_62 : decode cX2_sessions 62 = .ok (.invokestatic 272, 3) := by decide +kernel
theorem dX2_sessions_65 : decode cX2_sessions 65 = .ok (.istore 4, 2) := by decide +kernel
theorem dX2_sessions_67 : decode cX2_sessions 67 = .ok (.aload_n 0, 1) := by decide +kernel
theorem dX2_sessions_68 : decode cX2_sessions 68 = .ok (.getfield 19, 3) := by decide +kernel
theorem dX2_sessions_71 : decode cX2_sessions 71 = .ok (.iload 9, 2) := by decide +kernel
theorem dX2_sessions_73 : decode cX2_sessions 73 = .ok (.iload 4, 2) := by decide +kernel
theorem dX2_sessions_75 : decode cX2_sessions 75 = .ok (.aload_n 0, 1) := by decide +kernel
theorem dX2_sessions_76 : decode cX2_sessions 76 = .ok (.getfield 10, 3) := by decide +kernel
theorem dX2_sessions_79 : decode cX2_sessions 79 = .ok (.getfield 179, 3) := by decide +kernel
theorem dX2_sessions_82 : decode cX2_sessions 82 = .ok (.invokestatic 275, 3) := by decide +kernel
theorem dX2_sessions_85 : decode cX2_sessions 85 = .ok (.invokevirtual 93, 3) := by decide +kernel
theorem dX2_sessions_88 : decode cX2_sessions 88 = .ok (.iconst 1, 1) := by decide +kernel
theorem dX2_sessions_89 : decode cX2_sessions 89 = .ok (.if_icmp .ne 6, 3) := by decide +kernel
theorem dX2_sessions_92 : decode cX2_sessions 92 = .ok (.iinc 5 1, 3) := by decide +kernel
theorem dX2_sessions_95 : decode cX2_sessions 95 = .ok (.iinc 8 1, 3) := by decide +kernel
theorem dX2_sessions_98 : decode cX2_sessions 98 = .ok (.goto (-66), 3) := by decide +kernel
theorem dX2_sessions_101 : decode cX2_sessions 101 = .ok (.iload 6, 2) := by decide +kernel
theorem dX2_sessions_103 : decode cX2_sessions 103 = .ok (.aload_n 0, 1) := by decide +kernel
theorem dX2_sessions_104 : decode cX2_sessions 104 = .ok (.getfield 19, 3) := by decide +kernel
theorem dX2_sessions_107 : decode cX2_sessions 107 = .ok (.invokevirtual 122, 3) := by decide +kernel
theorem dX2_sessions_110 : decode cX2_sessions 110 = .ok (.invokestatic 169, 3) := by decide +kernel
theorem dX2_sessions_113 : decode cX2_sessions 113 = .ok (.iadd, 1) := by decide +kernel
theorem dX2_sessions_114 : decode cX2_sessions 114 = .ok (.istore 6, 2) := by decide +kernel
theorem dX2_sessions_116 : decode cX2_sessions 116 = .ok (.iinc 7 1, 3) := by decide +kernel
theorem dX2_sessions_119 : decode cX2_sessions 119 = .ok (.goto (-107), 3) := by decide +kernel
theorem dX2_sessions_122 : decode cX2_sessions 122 = .ok (.iload_n 3, 1) := by decide +kernel
theorem dX2_sessions_123 : decode cX2_sessions 123 = .ok (.ifCond .ne 8, 3) := by decide +kernel
theorem dX2_sessions_126 : decode cX2_sessions 126 = .ok (.iload 5, 2) := by decide +kernel
theorem dX2_sessions_128 : decode cX2_sessions 128 = .ok (.goto 5, 3) := by decide +kernel
theorem dX2_sessions_131 : decode cX2_sessions 131 = .ok (.iload 6, 2) := by decide +kernel
theorem dX2_sessions_133 : decode cX2_sessions 133 = .ok (.ireturn, 1) := by decide +kernel
theorem dX2_drawOn_0 : decode cX2_drawOn 0 = .ok (.iload_n 0, 1) := by decide +kernel
theorem dX2_drawOn_1 : decode cX2_drawOn 1 = .ok (.ldc_w 278, 3) := by decide +kernel
theorem dX2_drawOn_4 : decode cX2_drawOn 4 = .ok (.imul, 1) := by decide +kernel
theorem dX2_drawOn_5 : decode cX2_drawOn 5 = .ok (.ldc_w 279, 3) := by decide +kernel
theorem dX2_drawOn_8 : decode cX2_drawOn 8 = .ok (.iadd, 1) := by decide +kernel
theorem dX2_drawOn_9 : decode cX2_drawOn 9 = .ok (.ireturn, 1) := by decide +kernel
theorem dX2_drawBelow_0 : decode cX2_drawBelow 0 = .ok (.iload_n 1, 1) := by decide +kernel
theorem dX2_drawBelow_1 : decode cX2_drawBelow 1 = .ok (.ifCond .le 17, 3) := by decide +kernel
theorem dX2_drawBelow_4 : decode cX2_drawBelow 4 = .ok (.iload_n 0, 1) := by decide +kernel
theorem dX2_drawBelow_5 : decode cX2_drawBelow 5 = .ok (.ldc_w 280, 3) := by decide +kernel
theorem dX2_drawBelow_8 : decode cX2_drawBelow 8 = .ok (.iand, 1) := by decide +kernel
theorem dX2_drawBelow_9 : decode cX2_drawBelow 9 = .ok (.sipush 256, 3) := by decide +kernel
theorem dX2_drawBelow_12 : decode cX2_drawBelow 12 = .ok (.idiv, 1) := by decide +kernel
theorem dX2_drawBelow_13 : decode cX2_drawBelow 13 = .ok (.iload_n 1, 1) := by decide +kernel
theorem dX2_drawBelow_14 : decode cX2_drawBelow 14 = .ok (.irem, 1) := by decide +kernel
theorem dX2_drawBelow_15 : decode cX2_drawBelow 15 = .ok (.goto 4, 3) := by decide +kernel
theorem dX2_drawBelow_18 : decode cX2_drawBelow 18 = .ok (.iconst 0, 1) := by decide +kernel
theorem dX2_drawBelow_19 : decode cX2_drawBelow 19 = .ok (.ireturn, 1) := by decide +kernel
