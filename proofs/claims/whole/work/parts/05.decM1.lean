theorem d_M_init_0 : decode b_M_init 0 = .ok (.aload_n 0, 1) := by decide +kernel
theorem d_M_init_1 : decode b_M_init 1 = .ok (.invokespecial 1, 3) := by decide +kernel
theorem d_M_init_4 : decode b_M_init 4 = .ok (.aload_n 0, 1) := by decide +kernel
theorem d_M_init_5 : decode b_M_init 5 = .ok (.bipush 9, 2) := by decide +kernel
theorem d_M_init_7 : decode b_M_init 7 = .ok (.newarray .boolean, 2) := by decide +kernel
theorem d_M_init_9 : decode b_M_init 9 = .ok (.putfield 7, 3) := by decide +kernel
theorem d_M_init_12 : decode b_M_init 12 = .ok (.aload_n 0, 1) := by decide +kernel
theorem d_M_init_13 : decode b_M_init 13 = .ok (.bipush 9, 2) := by decide +kernel
theorem d_M_init_15 : decode b_M_init 15 = .ok (.newarray .int, 2) := by decide +kernel
theorem d_M_init_17 : decode b_M_init 17 = .ok (.putfield 13, 3) := by decide +kernel
theorem d_M_init_20 : decode b_M_init 20 = .ok (.aload_n 0, 1) := by decide +kernel
theorem d_M_init_21 : decode b_M_init 21 = .ok (.bipush 9, 2) := by decide +kernel
theorem d_M_init_23 : decode b_M_init 23 = .ok (.newarray .int, 2) := by decide +kernel
theorem d_M_init_25 : decode b_M_init 25 = .ok (.putfield 17, 3) := by decide +kernel
theorem d_M_init_28 : decode b_M_init 28 = .ok (.aload_n 0, 1) := by decide +kernel
theorem d_M_init_29 : decode b_M_init 29 = .ok (.bipush 9, 2) := by decide +kernel
theorem d_M_init_31 : decode b_M_init 31 = .ok (.newarray .int, 2) := by decide +kernel
theorem d_M_init_33 : decode b_M_init 33 = .ok (.putfield 20, 3) := by decide +kernel
theorem d_M_init_36 : decode b_M_init 36 = .ok (.aload_n 0, 1) := by decide +kernel
theorem d_M_init_37 : decode b_M_init 37 = .ok (.bipush 9, 2) := by decide +kernel
theorem d_M_init_39 : decode b_M_init 39 = .ok (.newarray .int, 2) := by decide +kernel
theorem d_M_init_41 : decode b_M_init 41 = .ok (.putfield 23, 3) := by decide +kernel
theorem d_M_init_44 : decode b_M_init 44 = .ok (.aload_n 0, 1) := by decide +kernel
theorem d_M_init_45 : decode b_M_init 45 = .ok (.bipush 72, 2) := by decide +kernel
theorem d_M_init_47 : decode b_M_init 47 = .ok (.newarray .int, 2) := by decide +kernel
theorem d_M_init_49 : decode b_M_init 49 = .ok (.putfield 26, 3) := by decide +kernel
theorem d_M_init_52 : decode b_M_init 52 = .ok (.aload_n 0, 1) := by decide +kernel
theorem d_M_init_53 : decode b_M_init 53 = .ok (.bipush 9, 2) := by decide +kernel
theorem d_M_init_55 : decode b_M_init 55 = .ok (.newarray .int, 2) := by decide +kernel
theorem d_M_init_57 : decode b_M_init 57 = .ok (.putfield 29, 3) := by decide +kernel
theorem d_M_init_60 : decode b_M_init 60 = .ok (.aload_n 0, 1) := by decide +kernel
theorem d_M_init_61 : decode b_M_init 61 = .ok (.bipush 36, 2) := by decide +kernel
theorem d_M_init_63 : decode b_M_init 63 = .ok (.newarray .int, 2) := by decide +kernel
theorem d_M_init_65 : decode b_M_init 65 = .ok (.putfield 32, 3) := by decide +kernel
theorem d_M_init_68 : decode b_M_init 68 = .ok (.aload_n 0, 1) := by decide +kernel
theorem d_M_init_69 : decode b_M_init 69 = .ok (.bipush 36, 2) := by decide +kernel
theorem d_M_init_71 : decode b_M_init 71 = .ok (.newarray .boolean, 2) := by decide +kernel
theorem d_M_init_73 : decode b_M_init 73 = .ok (.putfield 35, 3) := by decide +kernel
theorem d_M_init_76 : decode b_M_init 76 = .ok (.aload_n 0, 1) := by decide +kernel
theorem d_M_init_77 : decode b_M_init 77 = .ok (.bipush 36, 2) := by decide +kernel
theorem d_M_init_79 : decode b_M_init 79 = .ok (.newarray .int, 2) := by decide +kernel
theorem d_M_init_81 : decode b_M_init 81 = .ok (.putfield 38, 3) := by decide +kernel
theorem d_M_init_84 : decode b_M_init 84 = .ok (.aload_n 0, 1) := by decide +kernel
theorem d_M_init_85 : decode b_M_init 85 = .ok (.bipush 36, 2) := by decide +kernel
theorem d_M_init_87 : decode b_M_init 87 = .ok (.newarray .int, 2) := by decide +kernel
theorem d_M_init_89 : decode b_M_init 89 = .ok (.putfield 41, 3) := by decide +kernel
theorem d_M_init_92 : decode b_M_init 92 = .ok (.aload_n 0, 1) := by decide +kernel
theorem d_M_init_93 : decode b_M_init 93 = .ok (.bipush 9, 2) := by decide +kernel
theorem d_M_init_95 : decode b_M_init 95 = .ok (.newarray .int, 2) := by decide +kernel
theorem d_M_init_97 : decode b_M_init 97 = .ok (.putfield 44, 3) := by decide +kernel
theorem d_M_init_100 : decode b_M_init 100 = .ok (.aload_n 0, 1) := by decide +kernel
theorem d_M_init_101 : decode b_M_init 101 = .ok (.sipush 216, 3) := by decide +kernel
theorem d_M_init_104 : decode b_M_init 104 = .ok (.newarray .int, 2) := by decide +kernel
theorem d_M_init_106 : decode b_M_init 106 = .ok (.putfield 47, 3) := by decide +kernel
theorem d_M_init_109 : decode b_M_init 109 = .ok (.aload_n 0, 1) := by decide +kernel
theorem d_M_init_110 : decode b_M_init 110 = .ok (.bipush 64, 2) := by decide +kernel
theorem d_M_init_112 : decode b_M_init 112 = .ok (.newarray .boolean, 2) := by decide +kernel
theorem d_M_init_114 : decode b_M_init 114 = .ok (.putfield 50, 3) := by decide +kernel
theorem d_M_init_117 : decode b_M_init 117 = .ok (.aload_n 0, 1) := by decide +kernel
theorem d_M_init_118 : decode b_M_init 118 = .ok (.bipush 64, 2) := by decide +kernel
theorem d_M_init_120 : decode b_M_init 120 = .ok (.newarray .int, 2) := by decide +kernel
theorem d_M_init_122 : decode b_M_init 122 = .ok (.putfield 53, 3) := by decide +kernel
theorem d_M_init_125 : decode b_M_init 125 = .ok (.aload_n 0, 1) := by decide +kernel
theorem d_M_init_126 : decode b_M_init 126 = .ok (.bipush 8, 2) := by decide +kernel
theorem d_M_init_128 : decode b_M_init 128 = .ok (.newarray .int, 2) := by decide +kernel
theorem d_M_init_130 : decode b_M_init 130 = .ok (.putfield 56, 3) := by decide +kernel
theorem d_M_init_133 : decode b_M_init 133 = .ok (.aload_n 0, 1) := by decide +kernel
theorem d_M_init_134 : decode b_M_init 134 = .ok (.bipush 8, 2) := by decide +kernel
theorem d_M_init_136 : decode b_M_init 136 = .ok (.newarray .boolean, 2) := by decide +kernel
theorem d_M_init_138 : decode b_M_init 138 = .ok (.putfield 59, 3) := by decide +kernel
theorem d_M_init_141 : decode b_M_init 141 = .ok (.aload_n 0, 1) := by decide +kernel
theorem d_M_init_142 : decode b_M_init 142 = .ok (.bipush 8, 2) := by decide +kernel
theorem d_M_init_144 : decode b_M_init 144 = .ok (.newarray .int, 2) := by decide +kernel
theorem d_M_init_146 : decode b_M_init 146 = .ok (.putfield 62, 3) := by decide +kernel
theorem d_M_init_149 : decode b_M_init 149 = .ok (.aload_n 0, 1) := by decide +kernel
theorem d_M_init_150 : decode b_M_init 150 = .ok (.bipush 8, 2) := by decide +kernel
theorem d_M_init_152 : decode b_M_init 152 = .ok (.newarray .int, 2) := by decide +kernel
theorem d_M_init_154 : decode b_M_init 154 = .ok (.putfield 65, 3) := by decide +kernel
theorem d_M_init_157 : decode b_M_init 157 = .ok (.aload_n 0, 1) := by decide +kernel
theorem d_M_init_158 : decode b_M_init 158 = .ok (.bipush 48, 2) := by decide +kernel
theorem d_M_init_160 : decode b_M_init 160 = .ok (.newarray .int, 2) := by decide +kernel
theorem d_M_init_162 : decode b_M_init 162 = .ok (.putfield 68, 3) := by decide +kernel
theorem d_M_init_165 : decode b_M_init 165 = .ok (.aload_n 0, 1) := by decide +kernel
theorem d_M_init_166 : decode b_M_init 166 = .ok (.bipush 32, 2) := by decide +kernel
theorem d_M_init_168 : decode b_M_init 168 = .ok (.newarray .int, 2) := by decide +kernel
theorem d_M_init_170 : decode b_M_init 170 = .ok (.putfield 71, 3) := by decide +kernel
theorem d_M_init_173 : decode b_M_init 173 = .ok (.aload_n 0, 1) := by decide +kernel
theorem d_M_init_174 : decode b_M_init 174 = .ok (.iconst (-1), 1) := by decide +kernel
theorem d_M_init_175 : decode b_M_init 175 = .ok (.putfield 74, 3) := by decide +kernel
theorem d_M_init_178 : decode b_M_init 178 = .ok (.aload_n 0, 1) := by decide +kernel
theorem d_M_init_179 : decode b_M_init 179 = .ok (.bipush 9, 2) := by decide +kernel
theorem d_M_init_181 : decode b_M_init 181 = .ok (.newarray .int, 2) := by decide +kernel
theorem d_M_init_183 : decode b_M_init 183 = .ok (.putfield 78, 3) := by decide +kernel
theorem d_M_init_186 : decode b_M_init 186 = .ok (.aload_n 0, 1) := by decide +kernel
theorem d_M_init_187 : decode b_M_init 187 = .ok (.bipush 9, 2) := by decide +kernel
theorem d_M_init_189 : decode b_M_init 189 = .ok (.newarray .int, 2) := by decide +kernel
theorem d_M_init_191 : decode b_M_init 191 = .ok (.putfield 81, 3) := by decide +kernel
theorem d_M_init_194 : decode b_M_init 194 = .ok (.aload_n 0, 1) := by decide +kernel
theorem d_M_init_195 : decode b_M_init 195 = .ok (.bipush 9, 2) := by decide +kernel
theorem d_M_init_197 : decode b_M_init 197 = .ok (.newarray .int, 2) := by decide +kernel
theorem d_M_init_199 : decode b_M_init 199 = .ok (.putfield 84, 3) := by decide +kernel
theorem d_M_init_202 : decode b_M_init 202 = .ok (.aload_n 0, 1) := by decide +kernel
theorem d_M_init_203 : decode b_M_init 203 = .ok (.bipush 24, 2) := by decide +kernel
theorem d_M_init_205 : decode b_M_init 205 = .ok (.newarray .int, 2) := by decide +kernel
theorem d_M_init_207 : decode b_M_init 207 = .ok (.putfield 87, 3) := by decide +kernel
theorem d_M_init_210 : decode b_M_init 210 = .ok (.aload_n 0, 1) := by decide +kernel
theorem d_M_init_211 : decode b_M_init 211 = .ok (.getfield 13, 3) := by decide +kernel
theorem d_M_init_214 : decode b_M_init 214 = .ok (.bipush 8, 2) := by decide +kernel
theorem d_M_init_216 : decode b_M_init 216 = .ok (.iconst 1, 1) := by decide +kernel
theorem d_M_init_217 : decode b_M_init 217 = .ok (.iastore, 1) := by decide +kernel
theorem d_M_init_218 : decode b_M_init 218 = .ok (.return_, 1) := by decide +kernel
theorem d_M_thrown_0 : decode b_M_thrown 0 = .ok (.aload_n 0, 1) := by decide +kernel
theorem d_M_thrown_1 : decode b_M_thrown 1 = .ok (.getfield 90, 3) := by decide +kernel
theorem d_M_thrown_4 : decode b_M_thrown 4 = .ok (.ireturn, 1) := by decide +kernel
theorem d_M_in_0 : decode b_M_in 0 = .ok (.iload_n 0, 1) := by decide +kernel
theorem d_M_in_1 : decode b_M_in 1 = .ok (.ifCond .lt 12, 3) := by decide +kernel
theorem d_M_in_4 : decode b_M_in 4 = .ok (.iload_n 0, 1) := by decide +kernel
theorem d_M_in_5 : decode b_M_in 5 = .ok (.iload_n 1, 1) := by decide +kernel
theorem d_M_in_6 : decode b_M_in 6 = .ok (.if_icmp .ge 7, 3) := by decide +kernel
theorem d_M_in_9 : decode b_M_in 9 = .ok (.iconst 1, 1) := by decide +kernel
theorem d_M_in_10 : decode b_M_in 10 = .ok (.goto 4, 3) := by decide +kernel
theorem d_M_in_13 : decode b_M_in 13 = .ok (.iconst 0, 1) := by decide +kernel
theorem d_M_in_14 : decode b_M_in 14 = .ok (.ireturn, 1) := by decide +kernel
theorem d_M_isApp_0 : decode b_M_isApp 0 = .ok (.iload_n 1, 1) := by decide +kernel
theorem d_M_isApp_1 : decode b_M_isApp 1 = .ok (.bipush 8, 2) := by decide +kernel
theorem d_M_isApp_3 : decode b_M_isApp 3 = .ok (.invokestatic 93, 3) := by decide +kernel
theorem d_M_isApp_6 : decode b_M_isApp 6 = .ok (.ifCond .eq 16, 3) := by decide +kernel
theorem d_M_isApp_9 : decode b_M_isApp 9 = .ok (.aload_n 0, 1) := by decide +kernel
theorem d_M_isApp_10 : decode b_M_isApp 10 = .ok (.getfield 7, 3) := by decide +kernel
theorem d_M_isApp_13 : decode b_M_isApp 13 = .ok (.iload_n 1, 1) := by decide +kernel
theorem d_M_isApp_14 : decode b_M_isApp 14 = .ok (.baload, 1) := by decide +kernel
theorem d_M_isApp_15 : decode b_M_isApp 15 = .ok (.ifCond .eq 7, 3) := by decide +kernel
theorem d_M_isApp_18 : decode b_M_isApp 18 = .ok (.iconst 1, 1) := by decide +kernel
theorem d_M_isApp_19 : decode b_M_isApp 19 = .ok (.goto 4, 3) := by decide +kernel
theorem d_M_isApp_22 : decode b_M_isApp 22 = .ok (.iconst 0, 1) := by decide +kernel
theorem d_M_isApp_23 : decode b_M_isApp 23 = .ok (.ireturn, 1) := by decide +kernel
theorem d_M_draft_0 : decode b_M_draft 0 = .ok (.aload_n 0, 1) := by decide +kernel
theorem d_M_draft_1 : decode b_M_draft 1 = .ok (.iconst 0, 1) := by decide +kernel
theorem d_M_draft_2 : decode b_M_draft 2 = .ok (.putfield 90, 3) := by decide +kernel
theorem d_M_draft_5 : decode b_M_draft 5 = .ok (.iload_n 1, 1) := by decide +kernel
theorem d_M_draft_6 : decode b_M_draft 6 = .ok (.bipush 8, 2) := by decide +kernel
theorem d_M_draft_8 : decode b_M_draft 8 = .ok (.invokestatic 93, 3) := by decide +kernel
theorem d_M_draft_11 : decode b_M_draft 11 = .ok (.ifCond .eq 16, 3) := by decide +kernel
theorem d_M_draft_14 : decode b_M_draft 14 = .ok (.iload_n 2, 1) := by decide +kernel
theorem d_M_draft_15 : decode b_M_draft 15 = .ok (.iconst 1, 1) := by decide +kernel
theorem d_M_draft_16 : decode b_M_draft 16 = .ok (.if_icmp .lt 11, 3) := by decide +kernel
theorem d_M_draft_19 : decode b_M_draft 19 = .ok (.iload_n 3, 1) := by decide +kernel
theorem d_M_draft_20 : decode b_M_draft 20 = .ok (.iconst 4, 1) := by decide +kernel
theorem d_M_draft_21 : decode b_M_draft 21 = .ok (.invokestatic 93, 3) := by decide +kernel
theorem d_M_draft_24 : decode b_M_draft 24 = .ok (.ifCond .ne 5, 3) := by decide +kernel
theorem d_M_draft_27 : decode b_M_draft 27 = .ok (.iconst 0, 1) := by decide +kernel
theorem d_M_draft_28 : decode b_M_draft 28 = .ok (.ireturn, 1) := by decide +kernel
theorem d_M_draft_29 : decode b_M_draft 29 = .ok (.aload_n 0, 1) := by decide +kernel
theorem d_M_draft_30 : decode b_M_draft 30 = .ok (.iload_n 1, 1) := by decide +kernel
theorem d_M_draft_31 : decode b_M_draft 31 = .ok (.putfield 97, 3) := by decide +kernel
theorem d_M_draft_34 : decode b_M_draft 34 = .ok (.aload_n 0, 1) := by decide +kernel
theorem d_M_draft_35 : decode b_M_draft 35 = .ok (.getfield 13, 3) := by decide +kernel
theorem d_M_draft_38 : decode b_M_draft 38 = .ok (.bipush 8, 2) := by decide +kernel
theorem d_M_draft_40 : decode b_M_draft 40 = .ok (.iload_n 2, 1) := by decide +kernel
theorem d_M_draft_41 : decode b_M_draft 41 = .ok (.iastore, 1) := by decide +kernel
theorem d_M_draft_42 : decode b_M_draft 42 = .ok (.aload_n 0, 1) := by decide +kernel
theorem d_M_draft_43 : decode b_M_draft 43 = .ok (.getfield 17, 3) := by decide +kernel
theorem d_M_draft_46 : decode b_M_draft 46 = .ok (.bipush 8, 2) := by decide +kernel
theorem d_M_draft_48 : decode b_M_draft 48 = .ok (.iload_n 3, 1) := by decide +kernel
theorem d_M_draft_49 : decode b_M_draft 49 = .ok (.iastore, 1) := by decide +kernel
theorem d_M_draft_50 : decode b_M_draft 50 = .ok (.aload_n 0, 1) := by decide +kernel
theorem d_M_draft_51 : decode b_M_draft 51 = .ok (.getfield 20, 3) := by decide +kernel
theorem d_M_draft_54 : decode b_M_draft 54 = .ok (.bipush 8, 2) := by decide +kernel
theorem d_M_draft_56 : decode b_M_draft 56 = .ok (.iconst 0, 1) := by decide +kernel
theorem d_M_draft_57 : decode b_M_draft 57 = .ok (.iastore, 1) := by decide +kernel
theorem d_M_draft_58 : decode b_M_draft 58 = .ok (.aload_n 0, 1) := by decide +kernel
theorem d_M_draft_59 : decode b_M_draft 59 = .ok (.getfield 23, 3) := by decide +kernel
theorem d_M_draft_62 : decode b_M_draft 62 = .ok (.bipush 8, 2) := by decide +kernel
theorem d_M_draft_64 : decode b_M_draft 64 = .ok (.iconst 0, 1) := by decide +kernel
theorem d_M_draft_65 : decode b_M_draft 65 = .ok (.iastore, 1) := by decide +kernel
theorem d_M_draft_66 : decode b_M_draft 66 = .ok (.aload_n 0, 1) := by decide +kernel
theorem d_M_draft_67 : decode b_M_draft 67 = .ok (.getfield 29, 3) := by decide +kernel
theorem d_M_draft_70 : decode b_M_draft 70 = .ok (.bipush 8, 2) := by decide +kernel
theorem d_M_draft_72 : decode b_M_draft 72 = .ok (.iconst 0, 1) := by decide +kernel
theorem d_M_draft_73 : decode b_M_draft 73 = .ok (.iastore, 1) := by decide +kernel
theorem d_M_draft_74 : decode b_M_draft 74 = .ok (.aload_n 0, 1) := by decide +kernel
theorem d_M_draft_75 : decode b_M_draft 75 = .ok (.getfield 44, 3) := by decide +kernel
theorem d_M_draft_78 : decode b_M_draft 78 = .ok (.bipush 8, 2) := by decide +kernel
theorem d_M_draft_80 : decode b_M_draft 80 = .ok (.iconst 0, 1) := by decide +kernel
theorem d_M_draft_81 : decode b_M_draft 81 = .ok (.iastore, 1) := by decide +kernel
theorem d_M_draft_82 : decode b_M_draft 82 = .ok (.iconst 0, 1) := by decide +kernel
theorem d_M_draft_83 : decode b_M_draft 83 = .ok (.istore 4, 2) := by decide +kernel
theorem d_M_draft_85 : decode b_M_draft 85 = .ok (.iload 4, 2) := by decide +kernel
theorem d_M_draft_87 : decode b_M_draft 87 = .ok (.bipush 8, 2) := by decide +kernel
theorem d_M_draft_89 : decode b_M_draft 89 = .ok (.if_icmp .ge 20, 3) := by decide +kernel
theorem d_M_draft_92 : decode b_M_draft 92 = .ok (.aload_n 0, 1) := by decide +kernel
theorem d_M_draft_93 : decode b_M_draft 93 = .ok (.getfield 26, 3) := by decide +kernel
theorem d_M_draft_96 : decode b_M_draft 96 = .ok (.bipush 64, 2) := by decide +kernel
theorem d_M_draft_98 : decode b_M_draft 98 = .ok (.iload 4, 2) := by decide +kernel
theorem d_M_draft_100 : decode b_M_draft 100 = .ok (.iadd, 1) := by decide +kernel
theorem d_M_draft_101 : decode b_M_draft 101 = .ok (.iconst 0, 1) := by decide +kernel
theorem d_M_draft_102 : decode b_M_draft 102 = .ok (.iastore, 1) := by decide +kernel
theorem d_M_draft_103 : decode b_M_draft 103 = .ok (.iinc 4 1, 3) := by decide +kernel
theorem d_M_draft_106 : decode b_M_draft 106 = .ok (.goto (-21), 3) := by decide +kernel
theorem d_M_draft_109 : decode b_M_draft 109 = .ok (.iconst 1, 1) := by decide +kernel
theorem d_M_draft_110 : decode b_M_draft 110 = .ok (.ireturn, 1) := by decide +kernel
theorem d_M_word_0 : decode b_M_word 0 = .ok (.aload_n 0, 1) := by decide +kernel
theorem d_M_word_1 : decode b_M_word 1 = .ok (.iconst 0, 1) := by decide +kernel
theorem d_M_word_2 : decode b_M_word 2 = .ok (.putfield 90, 3) := by decide +kernel
theorem d_M_word_5 : decode b_M_word 5 = .ok (.aload_n 0, 1) := by decide +kernel
theorem d_M_word_6 : decode b_M_word 6 = .ok (.getfield 44, 3) := by decide +kernel
theorem d_M_word_9 : decode b_M_word 9 = .ok (.bipush 8, 2) := by decide +kernel
theorem d_M_word_11 : decode b_M_word 11 = .ok (.iaload, 1) := by decide +kernel
theorem d_M_word_12 : decode b_M_word 12 = .ok (.bipush 24, 2) := by decide +kernel
theorem d_M_word_14 : decode b_M_word 14 = .ok (.if_icmp .ne 5, 3) := by decide +kernel
theorem d_M_word_17 : decode b_M_word 17 = .ok (.iconst 0, 1) := by decide +kernel
theorem d_M_word_18 : decode b_M_word 18 = .ok (.ireturn, 1) := by decide +kernel
theorem d_M_word_19 : decode b_M_word 19 = .ok (.aload_n 0, 1) := by decide +kernel
theorem d_M_word_20 : decode b_M_word 20 = .ok (.getfield 47, 3) := by decide +kernel
theorem d_M_word_23 : decode b_M_word 23 = .ok (.sipush 192, 3) := by decide +kernel
theorem d_M_word_26 : decode b_M_word 26 = .ok (.aload_n 0, 1) := by decide +kernel
theorem d_M_word_27 : decode b_M_word 27 = .ok (.getfield 44, 3) := by decide +kernel
theorem d_M_word_30 : decode b_M_word 30 = .ok (.bipush 8, 2) := by decide +kernel
theorem d_M_word_32 : decode b_M_word 32 = .ok (.iaload, 1) := by decide +kernel
theorem d_M_word_33 : decode b_M_word 33 = .ok (.iadd, 1) := by decide +kernel
theorem d_M_word_34 : decode b_M_word 34 = .ok (.iload_n 1, 1) := by decide +kernel
theorem d_M_word_35 : decode b_M_word 35 = .ok (.iastore, 1) := by decide +kernel
theorem d_M_word_36 : decode b_M_word 36 = .ok (.aload_n 0, 1) := by decide +kernel
theorem d_M_word_37 : decode b_M_word 37 = .ok (.getfield 44, 3) := by decide +kernel
theorem d_M_word_40 : decode b_M_word 40 = .ok (.bipush 8, 2) := by decide +kernel
theorem d_M_word_42 : decode b_M_word 42 = .ok (.dup2, 1) := by decide +kernel
theorem d_M_word_43 : decode b_M_word 43 = .ok (.iaload, 1) := by decide +kernel
theorem d_M_word_44 : decode b_M_word 44 = .ok (.iconst 1, 1) := by decide +kernel
theorem d_M_word_45 : decode b_M_word 45 = .ok (.iadd, 1) := by decide +kernel
theorem d_M_word_46 : decode b_M_word 46 = .ok (.iastore, 1) := by decide +kernel
theorem d_M_word_47 : decode b_M_word 47 = .ok (.iconst 1, 1) := by decide +kernel
theorem d_M_word_48 : decode b_M_word 48 = .ok (.ireturn, 1) := by decide +kernel
theorem d_M_part_0 : decode b_M_part 0 = .ok (.aload_n 0, 1) := by decide +kernel
theorem d_M_part_1 : decode b_M_part 1 = .ok (.iconst 0, 1) := by decide +kernel
theorem d_M_part_2 : decode b_M_part 2 = .ok (.putfield 90, 3) := by decide +kernel
theorem d_M_part_5 : decode b_M_part 5 = .ok (.aload_n 0, 1) := by decide +kernel
theorem d_M_part_6 : decode b_M_part 6 = .ok (.getfield 29, 3) := by decide +kernel
theorem d_M_part_9 : decode b_M_part 9 = .ok (.bipush 8, 2) := by decide +kernel
theorem d_M_part_11 : decode b_M_part 11 = .ok (.iaload, 1) := by decide +kernel
theorem d_M_part_12 : decode b_M_part 12 = .ok (.iconst 4, 1) := by decide +kernel
theorem d_M_part_13 : decode b_M_part 13 = .ok (.if_icmp .eq 23, 3) := by decide +kernel
theorem d_M_part_16 : decode b_M_part 16 = .ok (.iload_n 1, 1) := by decide +kernel
theorem d_M_part_17 : decode b_M_part 17 = .ok (.bipush 10, 2) := by decide +kernel
theorem d_M_part_19 : decode b_M_part 19 = .ok (.invokestatic 93, 3) := by decide +kernel
theorem d_M_part_22 : decode b_M_part 22 = .ok (.ifCond .eq 14, 3) := by decide +kernel
theorem d_M_part_25 : decode b_M_part 25 = .ok (.iload_n 3, 1) := by decide +kernel
theorem d_M_part_26 : decode b_M_part 26 = .ok (.iconst (-1), 1) := by decide +kernel
theorem d_M_part_27 : decode b_M_part 27 = .ok (.if_icmp .lt 9, 3) := by decide +kernel
theorem d_M_part_30 : decode b_M_part 30 = .ok (.iload_n 3, 1) := by decide +kernel
theorem d_M_part_31 : decode b_M_part 31 = .ok (.bipush 7, 2) := by decide +kernel
theorem d_M_part_33 : decode b_M_part 33 = .ok (.if_icmp .le 5, 3) := by decide +kernel
theorem d_M_part_36 : decode b_M_part 36 = .ok (.iconst 0, 1) := by decide +kernel
theorem d_M_part_37 : decode b_M_part 37 = .ok (.ireturn, 1) := by decide +kernel
theorem d_M_part_38 : decode b_M_part 38 = .ok (.bipush 32, 2) := by decide +kernel
theorem d_M_part_40 : decode b_M_part 40 = .ok (.aload_n 0, 1) := by decide +kernel
theorem d_M_part_41 : decode b_M_part 41 = .ok (.getfield 29, 3) := by decide +kernel
theorem d_M_part_44 : decode b_M_part 44 = .ok (.bipush 8, 2) := by decide +kernel
theorem d_M_part_46 : decode b_M_part 46 = .ok (.iaload, 1) := by decide +kernel
theorem d_M_part_47 : decode b_M_part 47 = .ok (.iadd, 1) := by decide +kernel
theorem d_M_part_48 : decode b_M_part 48 = .ok (.istore 5, 2) := by decide +kernel
theorem d_M_part_50 : decode b_M_part 50 = .ok (.aload_n 0, 1) := by decide +kernel
theorem d_M_part_51 : decode b_M_part 51 = .ok (.getfield 32, 3) := by decide +kernel
theorem d_M_part_54 : decode b_M_part 54 = .ok (.iload 5, 2) := by decide +kernel
theorem d_M_part_56 : decode b_M_part 56 = .ok (.iload_n 1, 1) := by decide +kernel
theorem d_M_part_57 : decode b_M_part 57 = .ok (.iastore, 1) := by decide +kernel
theorem d_M_part_58 : decode b_M_part 58 = .ok (.aload_n 0, 1) := by decide +kernel
theorem d_M_part_59 : decode b_M_part 59 = .ok (.getfield 35, 3) := by decide +kernel
theorem d_M_part_62 : decode b_M_part 62 = .ok (.iload 5, 2) := by decide +kernel
theorem d_M_part_64 : decode b_M_part 64 = .ok (.iload_n 2, 1) := by decide +kernel
theorem d_M_part_65 : decode b_M_part 65 = .ok (.bastore, 1) := by decide +kernel
theorem d_M_part_66 : decode b_M_part 66 = .ok (.aload_n 0, 1) := by decide +kernel
theorem d_M_part_67 : decode b_M_part 67 = .ok (.getfield 38, 3) := by decide +kernel
theorem d_M_part_70 : decode b_M_part 70 = .ok (.iload 5, 2) := by decide +kernel
theorem d_M_part_72 : decode b_M_part 72 = .ok (.iload_n 3, 1) := by decide +kernel
theorem d_M_part_73 : decode b_M_part 73 = .ok (.iastore, 1) := by decide +kernel
theorem d_M_part_74 : decode b_M_part 74 = .ok (.aload_n 0, 1) := by decide +kernel
theorem d_M_part_75 : decode b_M_part 75 = .ok (.getfield 41, 3) := by decide +kernel
theorem d_M_part_78 : decode b_M_part 78 = .ok (.iload 5, 2) := by decide +kernel
theorem d_M_part_80 : decode b_M_part 80 = .ok (.iload 4, 2) := by decide +kernel
theorem d_M_part_82 : decode b_M_part 82 = .ok (.iastore, 1) := by decide +kernel
theorem d_M_part_83 : decode b_M_part 83 = .ok (.aload_n 0, 1) := by decide +kernel
theorem d_M_part_84 : decode b_M_part 84 = .ok (.getfield 29, 3) := by decide +kernel
theorem d_M_part_87 : decode b_M_part 87 = .ok (.bipush 8, 2) := by decide +kernel
theorem d_M_part_89 : decode b_M_part 89 = .ok (.dup2, 1) := by decide +kernel
theorem d_M_part_90 : decode b_M_part 90 = .ok (.iaload, 1) := by decide +kernel
theorem d_M_part_91 : decode b_M_part 91 = .ok (.iconst 1, 1) := by decide +kernel
theorem d_M_part_92 : decode b_M_part 92 = .ok (.iadd, 1) := by decide +kernel
theorem d_M_part_93 : decode b_M_part 93 = .ok (.iastore, 1) := by decide +kernel
theorem d_M_part_94 : decode b_M_part 94 = .ok (.iconst 1, 1) := by decide +kernel
theorem d_M_part_95 : decode b_M_part 95 = .ok (.ireturn, 1) := by decide +kernel
theorem d_M_ask_0 : decode b_M_ask 0 = .ok (.aload_n 0, 1) := by decide +kernel
theorem d_M_ask_1 : decode b_M_ask 1 = .ok (.iconst 0, 1) := by decide +kernel
theorem d_M_ask_2 : decode b_M_ask 2 = .ok (.putfield 90, 3) := by decide +kernel
theorem d_M_ask_5 : decode b_M_ask 5 = .ok (.iload_n 1, 1) := by decide +kernel
theorem d_M_ask_6 : decode b_M_ask 6 = .ok (.bipush 8, 2) := by decide +kernel
theorem d_M_ask_8 : decode b_M_ask 8 = .ok (.invokestatic 93, 3) := by decide +kernel
theorem d_M_ask_11 : decode b_M_ask 11 = .ok (.ifCond .eq 18, 3) := by decide +kernel
theorem d_M_ask_14 : decode b_M_ask 14 = .ok (.aload_n 0, 1) := by decide +kernel
theorem d_M_ask_15 : decode b_M_ask 15 = .ok (.getfield 23, 3) := by decide +kernel
theorem d_M_ask_18 : decode b_M_ask 18 = .ok (.bipush 8, 2) := by decide +kernel
theorem d_M_ask_20 : decode b_M_ask 20 = .ok (.iaload, 1) := by decide +kernel
theorem d_M_ask_21 : decode b_M_ask 21 = .ok (.iload_n 1, 1) := by decide +kernel
theorem d_M_ask_22 : decode b_M_ask 22 = .ok (.ishr, 1) := by decide +kernel
theorem d_M_ask_23 : decode b_M_ask 23 = .ok (.iconst 1, 1) := by decide +kernel
theorem d_M_ask_24 : decode b_M_ask 24 = .ok (.iand, 1) := by decide +kernel
theorem d_M_ask_25 : decode b_M_ask 25 = .ok (.iconst 1, 1) := by decide +kernel
theorem d_M_ask_26 : decode b_M_ask 26 = .ok (.if_icmp .ne 5, 3) := by decide +kernel
theorem d_M_ask_29 : decode b_M_ask 29 = .ok (.iconst 0, 1) := by decide +kernel
theorem d_M_ask_30 : decode b_M_ask 30 = .ok (.ireturn, 1) := by decide +kernel
theorem d_M_ask_31 : decode b_M_ask 31 = .ok (.aload_n 0, 1) := by decide +kernel
theorem d_M_ask_32 : decode b_M_ask 32 = .ok (.getfield 23, 3) := by decide +kernel
theorem d_M_ask_35 : decode b_M_ask 35 = .ok (.bipush 8, 2) := by decide +kernel
theorem d_M_ask_37 : decode b_M_ask 37 = .ok (.aload_n 0, 1) := by decide +kernel
theorem d_M_ask_38 : decode b_M_ask 38 = .ok (.getfield 23, 3) := by decide +kernel
theorem d_M_ask_41 : decode b_M_ask 41 = .ok (.bipush 8, 2) := by decide +kernel
theorem d_M_ask_43 : decode b_M_ask 43 = .ok (.iaload, 1) := by decide +kernel
theorem d_M_ask_44 : decode b_M_ask 44 = .ok (.iconst 1, 1) := by decide +kernel
theorem d_M_ask_45 : decode b_M_ask 45 = .ok (.iload_n 1, 1) := by decide +kernel
theorem d_M_ask_46 : decode b_M_ask 46 = .ok (.ishl, 1) := by decide +kernel
theorem d_M_ask_47 : decode b_M_ask 47 = .ok (.ior, 1) := by decide +kernel
theorem d_M_ask_48 : decode b_M_ask 48 = .ok (.iastore, 1) := by decide +kernel
theorem d_M_ask_49 : decode b_M_ask 49 = .ok (.iconst 1, 1) := by decide +kernel
theorem d_M_ask_50 : decode b_M_ask 50 = .ok (.ireturn, 1) := by decide +kernel
theorem d_M_declare_0 : decode b_M_declare 0 = .ok (.aload_n 0, 1) := by decide +kernel
theorem d_M_declare_1 : decode b_M_declare 1 = .ok (.iconst 0, 1) := by decide +kernel
theorem d_M_declare_2 : decode b_M_declare 2 = .ok (.putfield 90, 3) := by decide +kernel
theorem d_M_declare_5 : decode b_M_declare 5 = .ok (.iload_n 1, 1) := by decide +kernel
theorem d_M_declare_6 : decode b_M_declare 6 = .ok (.bipush 8, 2) := by decide +kernel
theorem d_M_declare_8 : decode b_M_declare 8 = .ok (.invokestatic 93, 3) := by decide +kernel
theorem d_M_declare_11 : decode b_M_declare 11 = .ok (.ifCond .eq 23, 3) := by decide +kernel
theorem d_M_declare_14 : decode b_M_declare 14 = .ok (.iload_n 2, 1) := by decide +kernel
theorem d_M_declare_15 : decode b_M_declare 15 = .ok (.iconst 3, 1) := by decide +kernel
theorem d_M_declare_16 : decode b_M_declare 16 = .ok (.invokestatic 93, 3) := by decide +kernel
theorem d_M_declare_19 : decode b_M_declare 19 = .ok (.ifCond .eq 15, 3) := by decide +kernel
theorem d_M_declare_22 : decode b_M_declare 22 = .ok (.aload_n 0, 1) := by decide +kernel
theorem d_M_declare_23 : decode b_M_declare 23 = .ok (.getfield 26, 3) := by decide +kernel
theorem d_M_declare_26 : decode b_M_declare 26 = .ok (.bipush 64, 2) := by decide +kernel
theorem d_M_declare_28 : decode b_M_declare 28 = .ok (.iload_n 1, 1) := by decide +kernel
theorem d_M_declare_29 : decode b_M_declare 29 = .ok (.iadd, 1) := by decide +kernel
theorem d_M_declare_30 : decode b_M_declare 30 = .ok (.iaload, 1) := by decide +kernel
theorem d_M_declare_31 : decode b_M_declare 31 = .ok (.ifCond .eq 5, 3) := by decide +kernel
theorem d_M_declare_34 : decode b_M_declare 34 = .ok (.iconst 0, 1) := by decide +kernel
theorem d_M_declare_35 : decode b_M_declare 35 = .ok (.ireturn, 1) := by decide +kernel
theorem d_M_declare_36 : decode b_M_declare 36 = .ok (.aload_n 0, 1) := by decide +kernel
theorem d_M_declare_37 : decode b_M_declare 37 = .ok (.getfield 26, 3) := by decide +kernel
theorem d_M_declare_40 : decode b_M_declare 40 = .ok (.bipush 64, 2) := by decide +kernel
theorem d_M_declare_42 : decode b_M_declare 42 = .ok (.iload_n 1, 1) := by decide +kernel
theorem d_M_declare_43 : decode b_M_declare 43 = .ok (.iadd, 1) := by decide +kernel
theorem d_M_declare_44 : decode b_M_declare 44 = .ok (.iload_n 2, 1) := by decide +kernel
theorem d_M_declare_45 : decode b_M_declare 45 = .ok (.iconst 1, 1) := by decide +kernel
theorem d_M_declare_46 : decode b_M_declare 46 = .ok (.iadd, 1) := by decide +kernel
theorem d_M_declare_47 : decode b_M_declare 47 = .ok (.iastore, 1) := by decide +kernel
theorem d_M_declare_48 : decode b_M_declare 48 = .ok (.iconst 1, 1) := by decide +kernel
theorem d_M_declare_49 : decode b_M_declare 49 = .ok (.ireturn, 1) := by decide +kernel
theorem d_M_mixed_0 : decode b_M_mixed 0 = .ok (.iload_n 0, 1) := by decide +kernel
theorem d_M_mixed_1 : decode b_M_mixed 1 = .ok (.bipush 31, 2) := by decide +kernel
theorem d_M_mixed_3 : decode b_M_mixed 3 = .ok (.imul, 1) := by decide +kernel
theorem d_M_mixed_4 : decode b_M_mixed 4 = .ok (.iload_n 1, 1) := by decide +kernel
theorem d_M_mixed_5 : decode b_M_mixed 5 = .ok (.iadd, 1) := by decide +kernel
theorem d_M_mixed_6 : decode b_M_mixed 6 = .ok (.istore_n 2, 1) := by decide +kernel
theorem d_M_mixed_7 : decode b_M_mixed 7 = .ok (.iload_n 2, 1) := by decide +kernel
theorem d_M_mixed_8 : decode b_M_mixed 8 = .ok (.iload_n 2, 1) := by decide +kernel
theorem d_M_mixed_9 : decode b_M_mixed 9 = .ok (.bipush 13, 2) := by decide +kernel
theorem d_M_mixed_11 : decode b_M_mixed 11 = .ok (.iushr, 1) := by decide +kernel
theorem d_M_mixed_12 : decode b_M_mixed 12 = .ok (.ixor, 1) := by decide +kernel
theorem d_M_mixed_13 : decode b_M_mixed 13 = .ok (.ireturn, 1) := by decide +kernel
theorem d_M_sealed_0 : decode b_M_sealed 0 = .ok (.bipush 17, 2) := by decide +kernel
theorem d_M_sealed_2 : decode b_M_sealed 2 = .ok (.aload_n 0, 1) := by decide +kernel
theorem d_M_sealed_3 : decode b_M_sealed 3 = .ok (.getfield 97, 3) := by decide +kernel
theorem d_M_sealed_6 : decode b_M_sealed 6 = .ok (.invokestatic 100, 3) := by decide +kernel
theorem d_M_sealed_9 : decode b_M_sealed 9 = .ok (.aload_n 0, 1) := by decide +kernel
theorem d_M_sealed_10 : decode b_M_sealed 10 = .ok (.getfield 13, 3) := by decide +kernel
theorem d_M_sealed_13 : decode b_M_sealed 13 = .ok (.bipush 8, 2) := by decide +kernel
theorem d_M_sealed_15 : decode b_M_sealed 15 = .ok (.iaload, 1) := by decide +kernel
theorem d_M_sealed_16 : decode b_M_sealed 16 = .ok (.invokestatic 100, 3) := by decide +kernel
theorem d_M_sealed_19 : decode b_M_sealed 19 = .ok (.aload_n 0, 1) := by decide +kernel
theorem d_M_sealed_20 : decode b_M_sealed 20 = .ok (.getfield 23, 3) := by decide +kernel
theorem d_M_sealed_23 : decode b_M_sealed 23 = .ok (.bipush 8, 2) := by decide +kernel
theorem d_M_sealed_25 : decode b_M_sealed 25 = .ok (.iaload, 1) := by decide +kernel
theorem d_M_sealed_26 : decode b_M_sealed 26 = .ok (.invokestatic 100, 3) := by decide +kernel
theorem d_M_sealed_29 : decode b_M_sealed 29 = .ok (.istore_n 1, 1) := by decide +kernel
theorem d_M_sealed_30 : decode b_M_sealed 30 = .ok (.iconst 0, 1) := by decide +kernel
theorem d_M_sealed_31 : decode b_M_sealed 31 = .ok (.istore_n 2, 1) := by decide +kernel
theorem d_M_sealed_32 : decode b_M_sealed 32 = .ok (.iload_n 2, 1) := by decide +kernel
theorem d_M_sealed_33 : decode b_M_sealed 33 = .ok (.bipush 8, 2) := by decide +kernel
theorem d_M_sealed_35 : decode b_M_sealed 35 = .ok (.if_icmp .ge 46, 3) := by decide +kernel
theorem d_M_sealed_38 : decode b_M_sealed 38 = .ok (.aload_n 0, 1) := by decide +kernel
theorem d_M_sealed_39 : decode b_M_sealed 39 = .ok (.getfield 26, 3) := by decide +kernel
theorem d_M_sealed_42 : decode b_M_sealed 42 = .ok (.bipush 64, 2) := by decide +kernel
theorem d_M_sealed_44 : decode b_M_sealed 44 = .ok (.iload_n 2, 1) := by decide +kernel
theorem d_M_sealed_45 : decode b_M_sealed 45 = .ok (.iadd, 1) := by decide +kernel
theorem d_M_sealed_46 : decode b_M_sealed 46 = .ok (.iaload, 1) := by decide +kernel
theorem d_M_sealed_47 : decode b_M_sealed 47 = .ok (.ifCond .eq 26, 3) := by decide +kernel
theorem d_M_sealed_50 : decode b_M_sealed 50 = .ok (.iload_n 1, 1) := by decide +kernel
theorem d_M_sealed_51 : decode b_M_sealed 51 = .ok (.bipush 10, 2) := by decide +kernel
theorem d_M_sealed_53 : decode b_M_sealed 53 = .ok (.iload_n 2, 1) := by decide +kernel
theorem d_M_sealed_54 : decode b_M_sealed 54 = .ok (.imul, 1) := by decide +kernel
theorem d_M_sealed_55 : decode b_M_sealed 55 = .ok (.aload_n 0, 1) := by decide +kernel
theorem d_M_sealed_56 : decode b_M_sealed 56 = .ok (.getfield 26, 3) := by decide +kernel
theorem d_M_sealed_59 : decode b_M_sealed 59 = .ok (.bipush 64, 2) := by decide +kernel
theorem d_M_sealed_61 : decode b_M_sealed 61 = .ok (.iload_n 2, 1) := by decide +kernel
theorem d_M_sealed_62 : decode b_M_sealed 62 = .ok (.iadd, 1) := by decide +kernel
theorem d_M_sealed_63 : decode b_M_sealed 63 = .ok (.iaload, 1) := by decide +kernel
theorem d_M_sealed_64 : decode b_M_sealed 64 = .ok (.iadd, 1) := by decide +kernel
theorem d_M_sealed_65 : decode b_M_sealed 65 = .ok (.iconst 1, 1) := by decide +kernel
theorem d_M_sealed_66 : decode b_M_sealed 66 = .ok (.isub, 1) := by decide +kernel
theorem d_M_sealed_67 : decode b_M_sealed 67 = .ok (.invokestatic 100, 3) := by decide +kernel
theorem d_M_sealed_70 : decode b_M_sealed 70 = .ok (.goto 4, 3) := by decide +kernel
theorem d_M_sealed_73 : decode b_M_sealed 73 = .ok (.iload_n 1, 1) := by decide +kernel
theorem d_M_sealed_74 : decode b_M_sealed 74 = .ok (.istore_n 1, 1) := by decide +kernel
theorem d_M_sealed_75 : decode b_M_sealed 75 = .ok (.iinc 2 1, 3) := by decide +kernel
theorem d_M_sealed_78 : decode b_M_sealed 78 = .ok (.goto (-46), 3) := by decide +kernel
theorem d_M_sealed_81 : decode b_M_sealed 81 = .ok (.bipush 32, 2) := by decide +kernel
theorem d_M_sealed_83 : decode b_M_sealed 83 = .ok (.istore_n 2, 1) := by decide +kernel
theorem d_M_sealed_84 : decode b_M_sealed 84 = .ok (.iload_n 2, 1) := by decide +kernel
theorem d_M_sealed_85 : decode b_M_sealed 85 = .ok (.bipush 32, 2) := by decide +kernel
theorem d_M_sealed_87 : decode b_M_sealed 87 = .ok (.aload_n 0, 1) := by decide +kernel
theorem d_M_sealed_88 : decode b_M_sealed 88 = .ok (.getfield 29, 3) := by decide +kernel
theorem d_M_sealed_91 : decode b_M_sealed 91 = .ok (.bipush 8, 2) := by decide +kernel
theorem d_M_sealed_93 : decode b_M_sealed 93 = .ok (.iaload, 1) := by decide +kernel
theorem d_M_sealed_94 : decode b_M_sealed 94 = .ok (.iadd, 1) := by decide +kernel
theorem d_M_sealed_95 : decode b_M_sealed 95 = .ok (.if_icmp .ge 61, 3) := by decide +kernel
theorem d_M_sealed_98 : decode b_M_sealed 98 = .ok (.iload_n 1, 1) := by decide +kernel
theorem d_M_sealed_99 : decode b_M_sealed 99 = .ok (.aload_n 0, 1) := by decide +kernel
theorem d_M_sealed_100 : decode b_M_sealed 100 = .ok (.getfield 32, 3) := by decide +kernel
theorem d_M_sealed_103 : decode b_M_sealed 103 = .ok (.iload_n 2, 1) := by decide +kernel
theorem d_M_sealed_104 : decode b_M_sealed 104 = .ok (.iaload, 1) := by decide +kernel
theorem d_M_sealed_105 : decode b_M_sealed 105 = .ok (.invokestatic 100, 3) := by decide +kernel
theorem d_M_sealed_108 : decode b_M_sealed 108 = .ok (.istore_n 1, 1) := by decide +kernel
theorem d_M_sealed_109 : decode b_M_sealed 109 = .ok (.iload_n 1, 1) := by decide +kernel
theorem d_M_sealed_110 : decode b_M_sealed 110 = .ok (.aload_n 0, 1) := by decide +kernel
theorem d_M_sealed_111 : decode b_M_sealed 111 = .ok (.getfield 35, 3) := by decide +kernel
theorem d_M_sealed_114 : decode b_M_sealed 114 = .ok (.iload_n 2, 1) := by decide +kernel
theorem d_M_sealed_115 : decode b_M_sealed 115 = .ok (.baload, 1) := by decide +kernel
theorem d_M_sealed_116 : decode b_M_sealed 116 = .ok (.ifCond .eq 7, 3) := by decide +kernel
theorem d_M_sealed_119 : decode b_M_sealed 119 = .ok (.iconst 1, 1) := by decide +kernel
theorem d_M_sealed_120 : decode b_M_sealed 120 = .ok (.goto 4, 3) := by decide +kernel
theorem d_M_sealed_123 : decode b_M_sealed 123 = .ok (.iconst 0, 1) := by decide +kernel
theorem d_M_sealed_124 : decode b_M_sealed 124 = .ok (.invokestatic 100, 3) := by decide +kernel
theorem d_M_sealed_127 : decode b_M_sealed 127 = .ok (.istore_n 1, 1) := by decide +kernel
theorem d_M_sealed_128 : decode b_M_sealed 128 = .ok (.iload_n 1, 1) := by decide +kernel
theorem d_M_sealed_129 : decode b_M_sealed 129 = .ok (.aload_n 0, 1) := by decide +kernel
theorem d_M_sealed_130 : decode b_M_sealed 130 = .ok (.getfield 38, 3) := by decide +kernel
theorem d_M_sealed_133 : decode b_M_sealed 133 = .ok (.iload_n 2, 1) := by decide +kernel
theorem d_M_sealed_134 : decode b_M_sealed 134 = .ok (.iaload, 1) := by decide +kernel
theorem d_M_sealed_135 : decode b_M_sealed 135 = .ok (.invokestatic 100, 3) := by decide +kernel
theorem d_M_sealed_138 : decode b_M_sealed 138 = .ok (.istore_n 1, 1) := by decide +kernel
theorem d_M_sealed_139 : decode b_M_sealed 139 = .ok (.iload_n 1, 1) := by decide +kernel
theorem d_M_sealed_140 : decode b_M_sealed 140 = .ok (.aload_n 0, 1) := by decide +kernel
theorem d_M_sealed_141 : decode b_M_sealed 141 = .ok (.getfield 41, 3) := by decide +kernel
theorem d_M_sealed_144 : decode b_M_sealed 144 = .ok (.iload_n 2, 1) := by decide +kernel
theorem d_M_sealed_145 : decode b_M_sealed 145 = .ok (.iaload, 1) := by decide +kernel
theorem d_M_sealed_146 : decode b_M_sealed 146 = .ok (.invokestatic 100, 3) := by decide +kernel
theorem d_M_sealed_149 : decode b_M_sealed 149 = .ok (.istore_n 1, 1) := by decide +kernel
theorem d_M_sealed_150 : decode b_M_sealed 150 = .ok (.iinc 2 1, 3) := by decide +kernel
theorem d_M_sealed_153 : decode b_M_sealed 153 = .ok (.goto (-69), 3) := by decide +kernel
theorem d_M_sealed_156 : decode b_M_sealed 156 = .ok (.iconst 0, 1) := by decide +kernel
theorem d_M_sealed_157 : decode b_M_sealed 157 = .ok (.istore_n 2, 1) := by decide +kernel
theorem d_M_sealed_158 : decode b_M_sealed 158 = .ok (.iload_n 2, 1) := by decide +kernel
theorem d_M_sealed_159 : decode b_M_sealed 159 = .ok (.aload_n 0, 1) := by decide +kernel
theorem d_M_sealed_160 : decode b_M_sealed 160 = .ok (.getfield 44, 3) := by decide +kernel
theorem d_M_sealed_163 : decode b_M_sealed 163 = .ok (.bipush 8, 2) := by decide +kernel
theorem d_M_sealed_165 : decode b_M_sealed 165 = .ok (.iaload, 1) := by decide +kernel
theorem d_M_sealed_166 : decode b_M_sealed 166 = .ok (.if_icmp .ge 24, 3) := by decide +kernel
theorem d_M_sealed_169 : decode b_M_sealed 169 = .ok (.iload_n 1, 1) := by decide +kernel
theorem d_M_sealed_170 : decode b_M_sealed 170 = .ok (.aload_n 0, 1) := by decide +kernel
theorem d_M_sealed_171 : decode b_M_sealed 171 = .ok (.getfield 47, 3) := by decide +kernel
theorem d_M_sealed_174 : decode b_M_sealed 174 = .ok (.sipush 192, 3) := by decide +kernel
theorem d_M_sealed_177 : decode b_M_sealed 177 = .ok (.iload_n 2, 1) := by decide +kernel
theorem d_M_sealed_178 : decode b_M_sealed 178 = .ok (.iadd, 1) := by decide +kernel
theorem d_M_sealed_179 : decode b_M_sealed 179 = .ok (.iaload, 1) := by decide +kernel
theorem d_M_sealed_180 : decode b_M_sealed 180 = .ok (.invokestatic 100, 3) := by decide +kernel
theorem d_M_sealed_183 : decode b_M_sealed 183 = .ok (.istore_n 1, 1) := by decide +kernel
theorem d_M_sealed_184 : decode b_M_sealed 184 = .ok (.iinc 2 1, 3) := by decide +kernel
theorem d_M_sealed_187 : decode b_M_sealed 187 = .ok (.goto (-29), 3) := by decide +kernel
theorem d_M_sealed_190 : decode b_M_sealed 190 = .ok (.iload_n 1, 1) := by decide +kernel
theorem d_M_sealed_191 : decode b_M_sealed 191 = .ok (.ldc 104, 2) := by decide +kernel
theorem d_M_sealed_193 : decode b_M_sealed 193 = .ok (.aload_n 0, 1) := by decide +kernel
theorem d_M_sealed_194 : decode b_M_sealed 194 = .ok (.getfield 17, 3) := by decide +kernel
theorem d_M_sealed_197 : decode b_M_sealed 197 = .ok (.bipush 8, 2) := by decide +kernel
theorem d_M_sealed_199 : decode b_M_sealed 199 = .ok (.iaload, 1) := by decide +kernel
theorem d_M_sealed_200 : decode b_M_sealed 200 = .ok (.iconst 1, 1) := by decide +kernel
theorem d_M_sealed_201 : decode b_M_sealed 201 = .ok (.iadd, 1) := by decide +kernel
theorem d_M_sealed_202 : decode b_M_sealed 202 = .ok (.imul, 1) := by decide +kernel
theorem d_M_sealed_203 : decode b_M_sealed 203 = .ok (.ixor, 1) := by decide +kernel
theorem d_M_sealed_204 : decode b_M_sealed 204 = .ok (.ireturn, 1) := by decide +kernel
theorem d_M_sign_0 : decode b_M_sign 0 = .ok (.aload_n 0, 1) := by decide +kernel
theorem d_M_sign_1 : decode b_M_sign 1 = .ok (.iconst 0, 1) := by decide +kernel
theorem d_M_sign_2 : decode b_M_sign 2 = .ok (.putfield 90, 3) := by decide +kernel
theorem d_M_sign_5 : decode b_M_sign 5 = .ok (.aload_n 0, 1) := by decide +kernel
theorem d_M_sign_6 : decode b_M_sign 6 = .ok (.getfield 20, 3) := by decide +kernel
theorem d_M_sign_9 : decode b_M_sign 9 = .ok (.bipush 8, 2) := by decide +kernel
theorem d_M_sign_11 : decode b_M_sign 11 = .ok (.aload_n 0, 1) := by decide +kernel
theorem d_M_sign_12 : decode b_M_sign 12 = .ok (.invokevirtual 105, 3) := by decide +kernel
theorem d_M_sign_15 : decode b_M_sign 15 = .ok (.iastore, 1) := by decide +kernel
theorem d_M_sign_16 : decode b_M_sign 16 = .ok (.aload_n 0, 1) := by decide +kernel
theorem d_M_sign_17 : decode b_M_sign 17 = .ok (.getfield 20, 3) := by decide +kernel
theorem d_M_sign_20 : decode b_M_sign 20 = .ok (.bipush 8, 2) := by decide +kernel
theorem d_M_sign_22 : decode b_M_sign 22 = .ok (.iaload, 1) := by decide +kernel
theorem d_M_sign_23 : decode b_M_sign 23 = .ok (.ireturn, 1) := by decide +kernel
theorem d_M_seal_0 : decode b_M_seal 0 = .ok (.aload_n 0, 1) := by decide +kernel
theorem d_M_seal_1 : decode b_M_seal 1 = .ok (.iconst 0, 1) := by decide +kernel
theorem d_M_seal_2 : decode b_M_seal 2 = .ok (.putfield 90, 3) := by decide +kernel
theorem d_M_seal_5 : decode b_M_seal 5 = .ok (.aload_n 0, 1) := by decide +kernel
theorem d_M_seal_6 : decode b_M_seal 6 = .ok (.getfield 20, 3) := by decide +kernel
theorem d_M_seal_9 : decode b_M_seal 9 = .ok (.bipush 8, 2) := by decide +kernel
theorem d_M_seal_11 : decode b_M_seal 11 = .ok (.iload_n 1, 1) := by decide +kernel
theorem d_M_seal_12 : decode b_M_seal 12 = .ok (.iastore, 1) := by decide +kernel
theorem d_M_seal_13 : decode b_M_seal 13 = .ok (.return_, 1) := by decide +kernel
theorem d_M_needs_0 : decode b_M_needs 0 = .ok (.iload_n 0, 1) := by decide +kernel
theorem d_M_needs_1 : decode b_M_needs 1 = .ok (.iconst 2, 1) := by decide +kernel
theorem d_M_needs_2 : decode b_M_needs 2 = .ok (.if_icmp .eq 20, 3) := by decide +kernel
theorem d_M_needs_5 : decode b_M_needs 5 = .ok (.iload_n 0, 1) := by decide +kernel
theorem d_M_needs_6 : decode b_M_needs 6 = .ok (.iconst 3, 1) := by decide +kernel
theorem d_M_needs_7 : decode b_M_needs 7 = .ok (.if_icmp .eq 15, 3) := by decide +kernel
theorem d_M_needs_10 : decode b_M_needs 10 = .ok (.iload_n 0, 1) := by decide +kernel
theorem d_M_needs_11 : decode b_M_needs 11 = .ok (.bipush 11, 2) := by decide +kernel
theorem d_M_needs_13 : decode b_M_needs 13 = .ok (.if_icmp .eq 9, 3) := by decide +kernel
theorem d_M_needs_16 : decode b_M_needs 16 = .ok (.iload_n 0, 1) := by decide +kernel
theorem d_M_needs_17 : decode b_M_needs 17 = .ok (.bipush 12, 2) := by decide +kernel
theorem d_M_needs_19 : decode b_M_needs 19 = .ok (.if_icmp .ne 7, 3) := by decide +kernel
theorem d_M_needs_22 : decode b_M_needs 22 = .ok (.iconst 2, 1) := by decide +kernel
theorem d_M_needs_23 : decode b_M_needs 23 = .ok (.goto 36, 3) := by decide +kernel
theorem d_M_needs_26 : decode b_M_needs 26 = .ok (.iload_n 0, 1) := by decide +kernel
theorem d_M_needs_27 : decode b_M_needs 27 = .ok (.iconst 4, 1) := by decide +kernel
theorem d_M_needs_28 : decode b_M_needs 28 = .ok (.if_icmp .eq 26, 3) := by decide +kernel
theorem d_M_needs_31 : decode b_M_needs 31 = .ok (.iload_n 0, 1) := by decide +kernel
theorem d_M_needs_32 : decode b_M_needs 32 = .ok (.iconst 5, 1) := by decide +kernel
theorem d_M_needs_33 : decode b_M_needs 33 = .ok (.if_icmp .eq 21, 3) := by decide +kernel
theorem d_M_needs_36 : decode b_M_needs 36 = .ok (.iload_n 0, 1) := by decide +kernel
theorem d_M_needs_37 : decode b_M_needs 37 = .ok (.bipush 7, 2) := by decide +kernel
theorem d_M_needs_39 : decode b_M_needs 39 = .ok (.if_icmp .eq 15, 3) := by decide +kernel
theorem d_M_needs_42 : decode b_M_needs 42 = .ok (.iload_n 0, 1) := by decide +kernel
theorem d_M_needs_43 : decode b_M_needs 43 = .ok (.bipush 9, 2) := by decide +kernel
theorem d_M_needs_45 : decode b_M_needs 45 = .ok (.if_icmp .eq 9, 3) := by decide +kernel
theorem d_M_needs_48 : decode b_M_needs 48 = .ok (.iload_n 0, 1) := by decide +kernel
theorem d_M_needs_49 : decode b_M_needs 49 = .ok (.bipush 10, 2) := by decide +kernel
theorem d_M_needs_51 : decode b_M_needs 51 = .ok (.if_icmp .ne 7, 3) := by decide +kernel
theorem d_M_needs_54 : decode b_M_needs 54 = .ok (.iconst 1, 1) := by decide +kernel
theorem d_M_needs_55 : decode b_M_needs 55 = .ok (.goto 4, 3) := by decide +kernel
theorem d_M_needs_58 : decode b_M_needs 58 = .ok (.iconst 0, 1) := by decide +kernel
theorem d_M_needs_59 : decode b_M_needs 59 = .ok (.ireturn, 1) := by decide +kernel
theorem d_M_change_0 : decode b_M_change 0 = .ok (.iload_n 0, 1) := by decide +kernel
theorem d_M_change_1 : decode b_M_change 1 = .ok (.iconst 1, 1) := by decide +kernel
theorem d_M_change_2 : decode b_M_change 2 = .ok (.if_icmp .eq 20, 3) := by decide +kernel
theorem d_M_change_5 : decode b_M_change 5 = .ok (.iload_n 0, 1) := by decide +kernel
theorem d_M_change_6 : decode b_M_change 6 = .ok (.iconst 4, 1) := by decide +kernel
theorem d_M_change_7 : decode b_M_change 7 = .ok (.if_icmp .eq 15, 3) := by decide +kernel
theorem d_M_change_10 : decode b_M_change 10 = .ok (.iload_n 0, 1) := by decide +kernel
theorem d_M_change_11 : decode b_M_change 11 = .ok (.bipush 6, 2) := by decide +kernel
theorem d_M_change_13 : decode b_M_change 13 = .ok (.if_icmp .eq 9, 3) := by decide +kernel
theorem d_M_change_16 : decode b_M_change 16 = .ok (.iload_n 0, 1) := by decide +kernel
theorem d_M_change_17 : decode b_M_change 17 = .ok (.bipush 13, 2) := by decide +kernel
theorem d_M_change_19 : decode b_M_change 19 = .ok (.if_icmp .ne 7, 3) := by decide +kernel
theorem d_M_change_22 : decode b_M_change 22 = .ok (.iconst 1, 1) := by decide +kernel
theorem d_M_change_23 : decode b_M_change 23 = .ok (.goto 52, 3) := by decide +kernel
theorem d_M_change_26 : decode b_M_change 26 = .ok (.iload_n 0, 1) := by decide +kernel
theorem d_M_change_27 : decode b_M_change 27 = .ok (.iconst 2, 1) := by decide +kernel
theorem d_M_change_28 : decode b_M_change 28 = .ok (.if_icmp .eq 25, 3) := by decide +kernel
theorem d_M_change_31 : decode b_M_change 31 = .ok (.iload_n 0, 1) := by decide +kernel
theorem d_M_change_32 : decode b_M_change 32 = .ok (.iconst 3, 1) := by decide +kernel
theorem d_M_change_33 : decode b_M_change 33 = .ok (.if_icmp .eq 20, 3) := by decide +kernel
theorem d_M_change_36 : decode b_M_change 36 = .ok (.iload_n 0, 1) := by decide +kernel
theorem d_M_change_37 : decode b_M_change 37 = .ok (.iconst 5, 1) := by decide +kernel
theorem d_M_change_38 : decode b_M_change 38 = .ok (.if_icmp .eq 15, 3) := by decide +kernel
theorem d_M_change_41 : decode b_M_change 41 = .ok (.iload_n 0, 1) := by decide +kernel
theorem d_M_change_42 : decode b_M_change 42 = .ok (.bipush 7, 2) := by decide +kernel
theorem d_M_change_44 : decode b_M_change 44 = .ok (.if_icmp .eq 9, 3) := by decide +kernel
theorem d_M_change_47 : decode b_M_change 47 = .ok (.iload_n 0, 1) := by decide +kernel
theorem d_M_change_48 : decode b_M_change 48 = .ok (.bipush 9, 2) := by decide +kernel
theorem d_M_change_50 : decode b_M_change 50 = .ok (.if_icmp .ne 7, 3) := by decide +kernel
theorem d_M_change_53 : decode b_M_change 53 = .ok (.iconst (-1), 1) := by decide +kernel
theorem d_M_change_54 : decode b_M_change 54 = .ok (.goto 21, 3) := by decide +kernel
theorem d_M_change_57 : decode b_M_change 57 = .ok (.iload_n 0, 1) := by decide +kernel
theorem d_M_change_58 : decode b_M_change 58 = .ok (.bipush 11, 2) := by decide +kernel
theorem d_M_change_60 : decode b_M_change 60 = .ok (.if_icmp .eq 9, 3) := by decide +kernel
theorem d_M_change_63 : decode b_M_change 63 = .ok (.iload_n 0, 1) := by decide +kernel
theorem d_M_change_64 : decode b_M_change 64 = .ok (.bipush 12, 2) := by decide +kernel
theorem d_M_change_66 : decode b_M_change 66 = .ok (.if_icmp .ne 8, 3) := by decide +kernel
theorem d_M_change_69 : decode b_M_change 69 = .ok (.bipush (-2), 2) := by decide +kernel
theorem d_M_change_71 : decode b_M_change 71 = .ok (.goto 4, 3) := by decide +kernel
theorem d_M_change_74 : decode b_M_change 74 = .ok (.iconst 0, 1) := by decide +kernel
theorem d_M_change_75 : decode b_M_change 75 = .ok (.ireturn, 1) := by decide +kernel
theorem d_M_comes_0 : decode b_M_comes 0 = .ok (.iload_n 1, 1) := by decide +kernel
theorem d_M_comes_1 : decode b_M_comes 1 = .ok (.aload_n 0, 1) := by decide +kernel
theorem d_M_comes_2 : decode b_M_comes 2 = .ok (.getfield 44, 3) := by decide +kernel
theorem d_M_comes_5 : decode b_M_comes 5 = .ok (.bipush 8, 2) := by decide +kernel
theorem d_M_comes_7 : decode b_M_comes 7 = .ok (.iaload, 1) := by decide +kernel
theorem d_M_comes_8 : decode b_M_comes 8 = .ok (.invokestatic 93, 3) := by decide +kernel
theorem d_M_comes_11 : decode b_M_comes 11 = .ok (.ifCond .eq 22, 3) := by decide +kernel
theorem d_M_comes_14 : decode b_M_comes 14 = .ok (.aload_n 0, 1) := by decide +kernel
theorem d_M_comes_15 : decode b_M_comes 15 = .ok (.getfield 87, 3) := by decide +kernel
theorem d_M_comes_18 : decode b_M_comes 18 = .ok (.iload_n 1, 1) := by decide +kernel
theorem d_M_comes_19 : decode b_M_comes 19 = .ok (.iaload, 1) := by decide +kernel
theorem d_M_comes_20 : decode b_M_comes 20 = .ok (.ifCond .lt 15, 3) := by decide +kernel
theorem d_M_comes_23 : decode b_M_comes 23 = .ok (.aload_n 0, 1) := by decide +kernel
theorem d_M_comes_24 : decode b_M_comes 24 = .ok (.getfield 87, 3) := by decide +kernel
theorem d_M_comes_27 : decode b_M_comes 27 = .ok (.iload_n 1, 1) := by decide +kernel
theorem d_M_comes_28 : decode b_M_comes 28 = .ok (.iaload, 1) := by decide +kernel
theorem d_M_comes_29 : decode b_M_comes 29 = .ok (.iload_n 2, 1) := by decide +kernel
theorem d_M_comes_30 : decode b_M_comes 30 = .ok (.if_icmp .eq 5, 3) := by decide +kernel
theorem d_M_comes_33 : decode b_M_comes 33 = .ok (.iconst 0, 1) := by decide +kernel
theorem d_M_comes_34 : decode b_M_comes 34 = .ok (.ireturn, 1) := by decide +kernel
theorem d_M_comes_35 : decode b_M_comes 35 = .ok (.aload_n 0, 1) := by decide +kernel
theorem d_M_comes_36 : decode b_M_comes 36 = .ok (.getfield 87, 3) := by decide +kernel
theorem d_M_comes_39 : decode b_M_comes 39 = .ok (.iload_n 1, 1) := by decide +kernel
theorem d_M_comes_40 : decode b_M_comes 40 = .ok (.iload_n 2, 1) := by decide +kernel
theorem d_M_comes_41 : decode b_M_comes 41 = .ok (.iastore, 1) := by decide +kernel
theorem d_M_comes_42 : decode b_M_comes 42 = .ok (.iconst 1, 1) := by decide +kernel
theorem d_M_comes_43 : decode b_M_comes 43 = .ok (.ireturn, 1) := by decide +kernel
theorem d_M_goesOn_0 : decode b_M_goesOn 0 = .ok (.aload_n 0, 1) := by decide +kernel
theorem d_M_goesOn_1 : decode b_M_goesOn 1 = .ok (.getfield 47, 3) := by decide +kernel
theorem d_M_goesOn_4 : decode b_M_goesOn 4 = .ok (.sipush 192, 3) := by decide +kernel
theorem d_M_goesOn_7 : decode b_M_goesOn 7 = .ok (.iload_n 1, 1) := by decide +kernel
theorem d_M_goesOn_8 : decode b_M_goesOn 8 = .ok (.iadd, 1) := by decide +kernel
theorem d_M_goesOn_9 : decode b_M_goesOn 9 = .ok (.iaload, 1) := by decide +kernel
theorem d_M_goesOn_10 : decode b_M_goesOn 10 = .ok (.istore_n 2, 1) := by decide +kernel
theorem d_M_goesOn_11 : decode b_M_goesOn 11 = .ok (.iload_n 2, 1) := by decide +kernel
theorem d_M_goesOn_12 : decode b_M_goesOn 12 = .ok (.bipush 15, 2) := by decide +kernel
theorem d_M_goesOn_14 : decode b_M_goesOn 14 = .ok (.iand, 1) := by decide +kernel
theorem d_M_goesOn_15 : decode b_M_goesOn 15 = .ok (.istore_n 3, 1) := by decide +kernel
theorem d_M_goesOn_16 : decode b_M_goesOn 16 = .ok (.iload_n 2, 1) := by decide +kernel
theorem d_M_goesOn_17 : decode b_M_goesOn 17 = .ok (.iconst 4, 1) := by decide +kernel
theorem d_M_goesOn_18 : decode b_M_goesOn 18 = .ok (.ishr, 1) := by decide +kernel
theorem d_M_goesOn_19 : decode b_M_goesOn 19 = .ok (.istore 4, 2) := by decide +kernel
theorem d_M_goesOn_21 : decode b_M_goesOn 21 = .ok (.aload_n 0, 1) := by decide +kernel
theorem d_M_goesOn_22 : decode b_M_goesOn 22 = .ok (.getfield 87, 3) := by decide +kernel
theorem d_M_goesOn_25 : decode b_M_goesOn 25 = .ok (.iload_n 1, 1) := by decide +kernel
theorem d_M_goesOn_26 : decode b_M_goesOn 26 = .ok (.iaload, 1) := by decide +kernel
theorem d_M_goesOn_27 : decode b_M_goesOn 27 = .ok (.iload_n 3, 1) := by decide +kernel
theorem d_M_goesOn_28 : decode b_M_goesOn 28 = .ok (.invokestatic 109, 3) := by decide +kernel
theorem d_M_goesOn_31 : decode b_M_goesOn 31 = .ok (.iadd, 1) := by decide +kernel
theorem d_M_goesOn_32 : decode b_M_goesOn 32 = .ok (.istore 5, 2) := by decide +kernel
theorem d_M_goesOn_34 : decode b_M_goesOn 34 = .ok (.iload_n 3, 1) := by decide +kernel
theorem d_M_goesOn_35 : decode b_M_goesOn 35 = .ok (.bipush 6, 2) := by decide +kernel
theorem d_M_goesOn_37 : decode b_M_goesOn 37 = .ok (.if_icmp .eq 9, 3) := by decide +kernel
theorem d_M_goesOn_40 : decode b_M_goesOn 40 = .ok (.iload_n 3, 1) := by decide +kernel
theorem d_M_goesOn_41 : decode b_M_goesOn 41 = .ok (.bipush 7, 2) := by decide +kernel
theorem d_M_goesOn_43 : decode b_M_goesOn 43 = .ok (.if_icmp .ne 12, 3) := by decide +kernel
theorem d_M_goesOn_46 : decode b_M_goesOn 46 = .ok (.iload 4, 2) := by decide +kernel
theorem d_M_goesOn_48 : decode b_M_goesOn 48 = .ok (.iconst 4, 1) := by decide +kernel
theorem d_M_goesOn_49 : decode b_M_goesOn 49 = .ok (.invokestatic 93, 3) := by decide +kernel
theorem d_M_goesOn_52 : decode b_M_goesOn 52 = .ok (.goto 30, 3) := by decide +kernel
theorem d_M_goesOn_55 : decode b_M_goesOn 55 = .ok (.iload_n 3, 1) := by decide +kernel
theorem d_M_goesOn_56 : decode b_M_goesOn 56 = .ok (.bipush 13, 2) := by decide +kernel
theorem d_M_goesOn_58 : decode b_M_goesOn 58 = .ok (.if_icmp .ne 13, 3) := by decide +kernel
theorem d_M_goesOn_61 : decode b_M_goesOn 61 = .ok (.iload 4, 2) := by decide +kernel
theorem d_M_goesOn_63 : decode b_M_goesOn 63 = .ok (.bipush 8, 2) := by decide +kernel
theorem d_M_goesOn_65 : decode b_M_goesOn 65 = .ok (.invokestatic 93, 3) := by decide +kernel
theorem d_M_goesOn_68 : decode b_M_goesOn 68 = .ok (.goto 14, 3) := by decide +kernel
theorem d_M_goesOn_71 : decode b_M_goesOn 71 = .ok (.iload_n 3, 1) := by decide +kernel
theorem d_M_goesOn_72 : decode b_M_goesOn 72 = .ok (.bipush 14, 2) := by decide +kernel
theorem d_M_goesOn_74 : decode b_M_goesOn 74 = .ok (.if_icmp .ge 7, 3) := by decide +kernel
theorem d_M_goesOn_77 : decode b_M_goesOn 77 = .ok (.iconst 1, 1) := by decide +kernel
theorem d_M_goesOn_78 : decode b_M_goesOn 78 = .ok (.goto 4, 3) := by decide +kernel
theorem d_M_goesOn_81 : decode b_M_goesOn 81 = .ok (.iconst 0, 1) := by decide +kernel
theorem d_M_goesOn_82 : decode b_M_goesOn 82 = .ok (.istore 6, 2) := by decide +kernel
theorem d_M_goesOn_84 : decode b_M_goesOn 84 = .ok (.iload 6, 2) := by decide +kernel
theorem d_M_goesOn_86 : decode b_M_goesOn 86 = .ok (.ifCond .eq 23, 3) := by decide +kernel
theorem d_M_goesOn_89 : decode b_M_goesOn 89 = .ok (.aload_n 0, 1) := by decide +kernel
theorem d_M_goesOn_90 : decode b_M_goesOn 90 = .ok (.getfield 87, 3) := by decide +kernel
theorem d_M_goesOn_93 : decode b_M_goesOn 93 = .ok (.iload_n 1, 1) := by decide +kernel
theorem d_M_goesOn_94 : decode b_M_goesOn 94 = .ok (.iaload, 1) := by decide +kernel
theorem d_M_goesOn_95 : decode b_M_goesOn 95 = .ok (.iload_n 3, 1) := by decide +kernel
theorem d_M_goesOn_96 : decode b_M_goesOn 96 = .ok (.invokestatic 113, 3) := by decide +kernel
theorem d_M_goesOn_99 : decode b_M_goesOn 99 = .ok (.if_icmp .lt 10, 3) := by decide +kernel
theorem d_M_goesOn_102 : decode b_M_goesOn 102 = .ok (.iload 5, 2) := by decide +kernel
theorem d_M_goesOn_104 : decode b_M_goesOn 104 = .ok (.bipush 6, 2) := by decide +kernel
theorem d_M_goesOn_106 : decode b_M_goesOn 106 = .ok (.if_icmp .le 5, 3) := by decide +kernel
theorem d_M_goesOn_109 : decode b_M_goesOn 109 = .ok (.iconst 0, 1) := by decide +kernel
theorem d_M_goesOn_110 : decode b_M_goesOn 110 = .ok (.ireturn, 1) := by decide +kernel
theorem d_M_goesOn_111 : decode b_M_goesOn 111 = .ok (.iload_n 3, 1) := by decide +kernel
theorem d_M_goesOn_112 : decode b_M_goesOn 112 = .ok (.bipush 8, 2) := by decide +kernel
theorem d_M_goesOn_114 : decode b_M_goesOn 114 = .ok (.if_icmp .eq 9, 3) := by decide +kernel
theorem d_M_goesOn_117 : decode b_M_goesOn 117 = .ok (.iload_n 3, 1) := by decide +kernel
theorem d_M_goesOn_118 : decode b_M_goesOn 118 = .ok (.bipush 9, 2) := by decide +kernel
theorem d_M_goesOn_120 : decode b_M_goesOn 120 = .ok (.if_icmp .ne 16, 3) := by decide +kernel
theorem d_M_goesOn_123 : decode b_M_goesOn 123 = .ok (.aload_n 0, 1) := by decide +kernel
theorem d_M_goesOn_124 : decode b_M_goesOn 124 = .ok (.iload_n 1, 1) := by decide +kernel
theorem d_M_goesOn_125 : decode b_M_goesOn 125 = .ok (.iload 4, 2) := by decide +kernel
theorem d_M_goesOn_127 : decode b_M_goesOn 127 = .ok (.iadd, 1) := by decide +kernel
theorem d_M_goesOn_128 : decode b_M_goesOn 128 = .ok (.iload 5, 2) := by decide +kernel
theorem d_M_goesOn_130 : decode b_M_goesOn 130 = .ok (.invokevirtual 116, 3) := by decide +kernel
theorem d_M_goesOn_133 : decode b_M_goesOn 133 = .ok (.ifCond .eq 7, 3) := by decide +kernel
theorem d_M_goesOn_136 : decode b_M_goesOn 136 = .ok (.iconst 1, 1) := by decide +kernel
theorem d_M_goesOn_137 : decode b_M_goesOn 137 = .ok (.goto 4, 3) := by decide +kernel
theorem d_M_goesOn_140 : decode b_M_goesOn 140 = .ok (.iconst 0, 1) := by decide +kernel
theorem d_M_goesOn_141 : decode b_M_goesOn 141 = .ok (.istore 7, 2) := by decide +kernel
theorem d_M_goesOn_143 : decode b_M_goesOn 143 = .ok (.iload 7, 2) := by decide +kernel
theorem d_M_goesOn_145 : decode b_M_goesOn 145 = .ok (.ifCond .eq 29, 3) := by decide +kernel
theorem d_M_goesOn_148 : decode b_M_goesOn 148 = .ok (.iload_n 3, 1) := by decide +kernel
theorem d_M_goesOn_149 : decode b_M_goesOn 149 = .ok (.ifCond .eq 21, 3) := by decide +kernel
theorem d_M_goesOn_152 : decode b_M_goesOn 152 = .ok (.iload_n 3, 1) := by decide +kernel
theorem d_M_goesOn_153 : decode b_M_goesOn 153 = .ok (.bipush 8, 2) := by decide +kernel
theorem d_M_goesOn_155 : decode b_M_goesOn 155 = .ok (.if_icmp .eq 15, 3) := by decide +kernel
theorem d_M_goesOn_158 : decode b_M_goesOn 158 = .ok (.aload_n 0, 1) := by decide +kernel
theorem d_M_goesOn_159 : decode b_M_goesOn 159 = .ok (.iload_n 1, 1) := by decide +kernel
theorem d_M_goesOn_160 : decode b_M_goesOn 160 = .ok (.iconst 1, 1) := by decide +kernel
theorem d_M_goesOn_161 : decode b_M_goesOn 161 = .ok (.iadd, 1) := by decide +kernel
theorem d_M_goesOn_162 : decode b_M_goesOn 162 = .ok (.iload 5, 2) := by decide +kernel
theorem d_M_goesOn_164 : decode b_M_goesOn 164 = .ok (.invokevirtual 116, 3) := by decide +kernel
theorem d_M_goesOn_167 : decode b_M_goesOn 167 = .ok (.ifCond .eq 7, 3) := by decide +kernel
theorem d_M_goesOn_170 : decode b_M_goesOn 170 = .ok (.iconst 1, 1) := by decide +kernel
theorem d_M_goesOn_171 : decode b_M_goesOn 171 = .ok (.goto 4, 3) := by decide +kernel
theorem d_M_goesOn_174 : decode b_M_goesOn 174 = .ok (.iconst 0, 1) := by decide +kernel
theorem d_M_goesOn_175 : decode b_M_goesOn 175 = .ok (.ireturn, 1) := by decide +kernel
theorem d_M_good_0 : decode b_M_good 0 = .ok (.iconst 0, 1) := by decide +kernel
theorem d_M_good_1 : decode b_M_good 1 = .ok (.istore_n 1, 1) := by decide +kernel
theorem d_M_good_2 : decode b_M_good 2 = .ok (.iload_n 1, 1) := by decide +kernel
theorem d_M_good_3 : decode b_M_good 3 = .ok (.bipush 24, 2) := by decide +kernel
theorem d_M_good_5 : decode b_M_good 5 = .ok (.if_icmp .ge 16, 3) := by decide +kernel
theorem d_M_good_8 : decode b_M_good 8 = .ok (.aload_n 0, 1) := by decide +kernel
theorem d_M_good_9 : decode b_M_good 9 = .ok (.getfield 87, 3) := by decide +kernel
theorem d_M_good_12 : decode b_M_good 12 = .ok (.iload_n 1, 1) := by decide +kernel
theorem d_M_good_13 : decode b_M_good 13 = .ok (.iconst (-1), 1) := by decide +kernel
theorem d_M_good_14 : decode b_M_good 14 = .ok (.iastore, 1) := by decide +kernel
theorem d_M_good_15 : decode b_M_good 15 = .ok (.iinc 1 1, 3) := by decide +kernel
theorem d_M_good_18 : decode b_M_good 18 = .ok (.goto (-16), 3) := by decide +kernel
theorem d_M_good_21 : decode b_M_good 21 = .ok (.iconst 1, 1) := by decide +kernel
theorem d_M_good_22 : decode b_M_good 22 = .ok (.istore_n 1, 1) := by decide +kernel
theorem d_M_good_23 : decode b_M_good 23 = .ok (.bipush 32, 2) := by decide +kernel
theorem d_M_good_25 : decode b_M_good 25 = .ok (.istore_n 2, 1) := by decide +kernel
theorem d_M_good_26 : decode b_M_good 26 = .ok (.iload_n 2, 1) := by decide +kernel
theorem d_M_good_27 : decode b_M_good 27 = .ok (.bipush 32, 2) := by decide +kernel
theorem d_M_good_29 : decode b_M_good 29 = .ok (.aload_n 0, 1) := by decide +kernel
theorem d_M_good_30 : decode b_M_good 30 = .ok (.getfield 29, 3) := by decide +kernel
theorem d_M_good_33 : decode b_M_good 33 = .ok (.bipush 8, 2) := by decide +kernel
theorem d_M_good_35 : decode b_M_good 35 = .ok (.iaload, 1) := by decide +kernel
theorem d_M_good_36 : decode b_M_good 36 = .ok (.iadd, 1) := by decide +kernel
theorem d_M_good_37 : decode b_M_good 37 = .ok (.if_icmp .ge 33, 3) := by decide +kernel
theorem d_M_good_40 : decode b_M_good 40 = .ok (.iload_n 1, 1) := by decide +kernel
theorem d_M_good_41 : decode b_M_good 41 = .ok (.ifCond .eq 21, 3) := by decide +kernel
theorem d_M_good_44 : decode b_M_good 44 = .ok (.aload_n 0, 1) := by decide +kernel
theorem d_M_good_45 : decode b_M_good 45 = .ok (.aload_n 0, 1) := by decide +kernel
theorem d_M_good_46 : decode b_M_good 46 = .ok (.getfield 41, 3) := by decide +kernel
theorem d_M_good_49 : decode b_M_good 49 = .ok (.iload_n 2, 1) := by decide +kernel
theorem d_M_good_50 : decode b_M_good 50 = .ok (.iaload, 1) := by decide +kernel
theorem d_M_good_51 : decode b_M_good 51 = .ok (.iconst 0, 1) := by decide +kernel
theorem d_M_good_52 : decode b_M_good 52 = .ok (.invokevirtual 116, 3) := by decide +kernel
theorem d_M_good_55 : decode b_M_good 55 = .ok (.ifCond .eq 7, 3) := by decide +kernel
theorem d_M_good_58 : decode b_M_good 58 = .ok (.iconst 1, 1) := by decide +kernel
theorem d_M_good_59 : decode b_M_good 59 = .ok (.goto 4, 3) := by decide +kernel
theorem d_M_good_62 : decode b_M_good 62 = .ok (.iconst 0, 1) := by decide +kernel
theorem d_M_good_63 : decode b_M_good 63 = .ok (.istore_n 1, 1) := by decide +kernel
theorem d_M_good_64 : decode b_M_good 64 = .ok (.iinc 2 1, 3) := by decide +kernel
theorem d_M_good_67 : decode b_M_good 67 = .ok (.goto (-41), 3) := by decide +kernel
theorem d_M_good_70 : decode b_M_good 70 = .ok (.iconst 0, 1) := by decide +kernel
theorem d_M_good_71 : decode b_M_good 71 = .ok (.istore_n 2, 1) := by decide +kernel
theorem d_M_good_72 : decode b_M_good 72 = .ok (.iload_n 2, 1) := by decide +kernel
theorem d_M_good_73 : decode b_M_good 73 = .ok (.bipush 25, 2) := by decide +kernel
theorem d_M_good_75 : decode b_M_good 75 = .ok (.if_icmp .ge 59, 3) := by decide +kernel
theorem d_M_good_78 : decode b_M_good 78 = .ok (.iload_n 1, 1) := by decide +kernel
theorem d_M_good_79 : decode b_M_good 79 = .ok (.ifCond .eq 55, 3) := by decide +kernel
theorem d_M_good_82 : decode b_M_good 82 = .ok (.iconst 0, 1) := by decide +kernel
theorem d_M_good_83 : decode b_M_good 83 = .ok (.istore_n 3, 1) := by decide +kernel
theorem d_M_good_84 : decode b_M_good 84 = .ok (.iload_n 3, 1) := by decide +kernel
theorem d_M_good_85 : decode b_M_good 85 = .ok (.aload_n 0, 1) := by decide +kernel
theorem d_M_good_86 : decode b_M_good 86 = .ok (.getfield 44, 3) := by decide +kernel
theorem d_M_good_89 : decode b_M_good 89 = .ok (.bipush 8, 2) := by decide +kernel
theorem d_M_good_91 : decode b_M_good 91 = .ok (.iaload, 1) := by decide +kernel
theorem d_M_good_92 : decode b_M_good 92 = .ok (.if_icmp .ge 36, 3) := by decide +kernel
theorem d_M_good_95 : decode b_M_good 95 = .ok (.iload_n 1, 1) := by decide +kernel
theorem d_M_good_96 : decode b_M_good 96 = .ok (.ifCond .eq 32, 3) := by decide +kernel
theorem d_M_good_99 : decode b_M_good 99 = .ok (.aload_n 0, 1) := by decide +kernel
theorem d_M_good_100 : decode b_M_good 100 = .ok (.getfield 87, 3) := by decide +kernel
theorem d_M_good_103 : decode b_M_good 103 = .ok (.iload_n 3, 1) := by decide +kernel
theorem d_M_good_104 : decode b_M_good 104 = .ok (.iaload, 1) := by decide +kernel
theorem d_M_good_105 : decode b_M_good 105 = .ok (.ifCond .lt 11, 3) := by decide +kernel
theorem d_M_good_108 : decode b_M_good 108 = .ok (.aload_n 0, 1) := by decide +kernel
theorem d_M_good_109 : decode b_M_good 109 = .ok (.iload_n 3, 1) := by decide +kernel
theorem d_M_good_110 : decode b_M_good 110 = .ok (.invokevirtual 119, 3) := by decide +kernel
theorem d_M_good_113 : decode b_M_good 113 = .ok (.ifCond .eq 7, 3) := by decide +kernel
theorem d_M_good_116 : decode b_M_good 116 = .ok (.iconst 1, 1) := by decide +kernel
theorem d_M_good_117 : decode b_M_good 117 = .ok (.goto 4, 3) := by decide +kernel
theorem d_M_good_120 : decode b_M_good 120 = .ok (.iconst 0, 1) := by decide +kernel
theorem d_M_good_121 : decode b_M_good 121 = .ok (.istore_n 1, 1) := by decide +kernel
theorem d_M_good_122 : decode b_M_good 122 = .ok (.iinc 3 1, 3) := by decide +kernel
theorem d_M_good_125 : decode b_M_good 125 = .ok (.goto (-41), 3) := by decide +kernel
theorem d_M_good_128 : decode b_M_good 128 = .ok (.iinc 2 1, 3) := by decide +kernel
theorem d_M_good_131 : decode b_M_good 131 = .ok (.goto (-59), 3) := by decide +kernel
theorem d_M_good_134 : decode b_M_good 134 = .ok (.iload_n 1, 1) := by decide +kernel
theorem d_M_good_135 : decode b_M_good 135 = .ok (.ireturn, 1) := by decide +kernel
theorem d_M_bad_0 : decode b_M_bad 0 = .ok (.aload_n 0, 1) := by decide +kernel
theorem d_M_bad_1 : decode b_M_bad 1 = .ok (.getfield 29, 3) := by decide +kernel
theorem d_M_bad_4 : decode b_M_bad 4 = .ok (.bipush 8, 2) := by decide +kernel
theorem d_M_bad_6 : decode b_M_bad 6 = .ok (.iaload, 1) := by decide +kernel
theorem d_M_bad_7 : decode b_M_bad 7 = .ok (.ifCond .eq 13, 3) := by decide +kernel
theorem d_M_bad_10 : decode b_M_bad 10 = .ok (.aload_n 0, 1) := by decide +kernel
theorem d_M_bad_11 : decode b_M_bad 11 = .ok (.getfield 44, 3) := by decide +kernel
theorem d_M_bad_14 : decode b_M_bad 14 = .ok (.bipush 8, 2) := by decide +kernel
theorem d_M_bad_16 : decode b_M_bad 16 = .ok (.iaload, 1) := by decide +kernel
theorem d_M_bad_17 : decode b_M_bad 17 = .ok (.ifCond .ne 7, 3) := by decide +kernel
theorem d_M_bad_20 : decode b_M_bad 20 = .ok (.iconst 1, 1) := by decide +kernel
theorem d_M_bad_21 : decode b_M_bad 21 = .ok (.goto 4, 3) := by decide +kernel
theorem d_M_bad_24 : decode b_M_bad 24 = .ok (.iconst 0, 1) := by decide +kernel
theorem d_M_bad_25 : decode b_M_bad 25 = .ok (.istore_n 1, 1) := by decide +kernel
theorem d_M_bad_26 : decode b_M_bad 26 = .ok (.bipush 32, 2) := by decide +kernel
theorem d_M_bad_28 : decode b_M_bad 28 = .ok (.istore_n 2, 1) := by decide +kernel
theorem d_M_bad_29 : decode b_M_bad 29 = .ok (.iload_n 2, 1) := by decide +kernel
theorem d_M_bad_30 : decode b_M_bad 30 = .ok (.bipush 32, 2) := by decide +kernel
theorem d_M_bad_32 : decode b_M_bad 32 = .ok (.aload_n 0, 1) := by decide +kernel
theorem d_M_bad_33 : decode b_M_bad 33 = .ok (.getfield 29, 3) := by decide +kernel
theorem d_M_bad_36 : decode b_M_bad 36 = .ok (.bipush 8, 2) := by decide +kernel
theorem d_M_bad_38 : decode b_M_bad 38 = .ok (.iaload, 1) := by decide +kernel
theorem d_M_bad_39 : decode b_M_bad 39 = .ok (.iadd, 1) := by decide +kernel
theorem d_M_bad_40 : decode b_M_bad 40 = .ok (.if_icmp .ge 38, 3) := by decide +kernel
theorem d_M_bad_43 : decode b_M_bad 43 = .ok (.iload_n 1, 1) := by decide +kernel
theorem d_M_bad_44 : decode b_M_bad 44 = .ok (.ifCond .ne 22, 3) := by decide +kernel
theorem d_M_bad_47 : decode b_M_bad 47 = .ok (.aload_n 0, 1) := by decide +kernel
theorem d_M_bad_48 : decode b_M_bad 48 = .ok (.getfield 41, 3) := by decide +kernel
theorem d_M_bad_51 : decode b_M_bad 51 = .ok (.iload_n 2, 1) := by decide +kernel
theorem d_M_bad_52 : decode b_M_bad 52 = .ok (.iaload, 1) := by decide +kernel
theorem d_M_bad_53 : decode b_M_bad 53 = .ok (.aload_n 0, 1) := by decide +kernel
theorem d_M_bad_54 : decode b_M_bad 54 = .ok (.getfield 44, 3) := by decide +kernel
theorem d_M_bad_57 : decode b_M_bad 57 = .ok (.bipush 8, 2) := by decide +kernel
theorem d_M_bad_59 : decode b_M_bad 59 = .ok (.iaload, 1) := by decide +kernel
theorem d_M_bad_60 : decode b_M_bad 60 = .ok (.invokestatic 93, 3) := by decide +kernel
theorem d_M_bad_63 : decode b_M_bad 63 = .ok (.ifCond .ne 7, 3) := by decide +kernel
theorem d_M_bad_66 : decode b_M_bad 66 = .ok (.iconst 1, 1) := by decide +kernel
theorem d_M_bad_67 : decode b_M_bad 67 = .ok (.goto 4, 3) := by decide +kernel
theorem d_M_bad_70 : decode b_M_bad 70 = .ok (.iconst 0, 1) := by decide +kernel
theorem d_M_bad_71 : decode b_M_bad 71 = .ok (.istore_n 1, 1) := by decide +kernel
theorem d_M_bad_72 : decode b_M_bad 72 = .ok (.iinc 2 1, 3) := by decide +kernel
theorem d_M_bad_75 : decode b_M_bad 75 = .ok (.goto (-46), 3) := by decide +kernel
theorem d_M_bad_78 : decode b_M_bad 78 = .ok (.iload_n 1, 1) := by decide +kernel
theorem d_M_bad_79 : decode b_M_bad 79 = .ok (.ifCond .ne 24, 3) := by decide +kernel
theorem d_M_bad_82 : decode b_M_bad 82 = .ok (.aload_n 0, 1) := by decide +kernel
theorem d_M_bad_83 : decode b_M_bad 83 = .ok (.getfield 20, 3) := by decide +kernel
theorem d_M_bad_86 : decode b_M_bad 86 = .ok (.bipush 8, 2) := by decide +kernel
theorem d_M_bad_88 : decode b_M_bad 88 = .ok (.iaload, 1) := by decide +kernel
theorem d_M_bad_89 : decode b_M_bad 89 = .ok (.aload_n 0, 1) := by decide +kernel
theorem d_M_bad_90 : decode b_M_bad 90 = .ok (.invokevirtual 105, 3) := by decide +kernel
theorem d_M_bad_93 : decode b_M_bad 93 = .ok (.if_icmp .ne 10, 3) := by decide +kernel
theorem d_M_bad_96 : decode b_M_bad 96 = .ok (.aload_n 0, 1) := by decide +kernel
theorem d_M_bad_97 : decode b_M_bad 97 = .ok (.invokevirtual 123, 3) := by decide +kernel
theorem d_M_bad_100 : decode b_M_bad 100 = .ok (.ifCond .ne 7, 3) := by decide +kernel
theorem d_M_bad_103 : decode b_M_bad 103 = .ok (.iconst 1, 1) := by decide +kernel
theorem d_M_bad_104 : decode b_M_bad 104 = .ok (.goto 4, 3) := by decide +kernel
theorem d_M_bad_107 : decode b_M_bad 107 = .ok (.iconst 0, 1) := by decide +kernel
theorem d_M_bad_108 : decode b_M_bad 108 = .ok (.ireturn, 1) := by decide +kernel
theorem d_M_clashes_0 : decode b_M_clashes 0 = .ok (.aload_n 0, 1) := by decide +kernel
theorem d_M_clashes_1 : decode b_M_clashes 1 = .ok (.getfield 97, 3) := by decide +kernel
theorem d_M_clashes_4 : decode b_M_clashes 4 = .ok (.istore_n 1, 1) := by decide +kernel
theorem d_M_clashes_5 : decode b_M_clashes 5 = .ok (.aload_n 0, 1) := by decide +kernel
theorem d_M_clashes_6 : decode b_M_clashes 6 = .ok (.getfield 7, 3) := by decide +kernel
theorem d_M_clashes_9 : decode b_M_clashes 9 = .ok (.iload_n 1, 1) := by decide +kernel
theorem d_M_clashes_10 : decode b_M_clashes 10 = .ok (.baload, 1) := by decide +kernel
theorem d_M_clashes_11 : decode b_M_clashes 11 = .ok (.ifCond .eq 39, 3) := by decide +kernel
theorem d_M_clashes_14 : decode b_M_clashes 14 = .ok (.aload_n 0, 1) := by decide +kernel
theorem d_M_clashes_15 : decode b_M_clashes 15 = .ok (.getfield 17, 3) := by decide +kernel
theorem d_M_clashes_18 : decode b_M_clashes 18 = .ok (.iload_n 1, 1) := by decide +kernel
theorem d_M_clashes_19 : decode b_M_clashes 19 = .ok (.iaload, 1) := by decide +kernel
theorem d_M_clashes_20 : decode b_M_clashes 20 = .ok (.aload_n 0, 1) := by decide +kernel
theorem d_M_clashes_21 : decode b_M_clashes 21 = .ok (.getfield 17, 3) := by decide +kernel
theorem d_M_clashes_24 : decode b_M_clashes 24 = .ok (.bipush 8, 2) := by decide +kernel
theorem d_M_clashes_26 : decode b_M_clashes 26 = .ok (.iaload, 1) := by decide +kernel
theorem d_M_clashes_27 : decode b_M_clashes 27 = .ok (.if_icmp .ne 19, 3) := by decide +kernel
theorem d_M_clashes_30 : decode b_M_clashes 30 = .ok (.aload_n 0, 1) := by decide +kernel
theorem d_M_clashes_31 : decode b_M_clashes 31 = .ok (.getfield 13, 3) := by decide +kernel
theorem d_M_clashes_34 : decode b_M_clashes 34 = .ok (.iload_n 1, 1) := by decide +kernel
theorem d_M_clashes_35 : decode b_M_clashes 35 = .ok (.iaload, 1) := by decide +kernel
theorem d_M_clashes_36 : decode b_M_clashes 36 = .ok (.aload_n 0, 1) := by decide +kernel
theorem d_M_clashes_37 : decode b_M_clashes 37 = .ok (.getfield 13, 3) := by decide +kernel
theorem d_M_clashes_40 : decode b_M_clashes 40 = .ok (.bipush 8, 2) := by decide +kernel
theorem d_M_clashes_42 : decode b_M_clashes 42 = .ok (.iaload, 1) := by decide +kernel
theorem d_M_clashes_43 : decode b_M_clashes 43 = .ok (.if_icmp .lt 7, 3) := by decide +kernel
theorem d_M_clashes_46 : decode b_M_clashes 46 = .ok (.iconst 1, 1) := by decide +kernel
theorem d_M_clashes_47 : decode b_M_clashes 47 = .ok (.goto 4, 3) := by decide +kernel
theorem d_M_clashes_50 : decode b_M_clashes 50 = .ok (.iconst 0, 1) := by decide +kernel
theorem d_M_clashes_51 : decode b_M_clashes 51 = .ok (.istore_n 2, 1) := by decide +kernel
theorem d_M_clashes_52 : decode b_M_clashes 52 = .ok (.iconst 0, 1) := by decide +kernel
theorem d_M_clashes_53 : decode b_M_clashes 53 = .ok (.istore_n 3, 1) := by decide +kernel
theorem d_M_clashes_54 : decode b_M_clashes 54 = .ok (.iload_n 3, 1) := by decide +kernel
theorem d_M_clashes_55 : decode b_M_clashes 55 = .ok (.bipush 8, 2) := by decide +kernel
theorem d_M_clashes_57 : decode b_M_clashes 57 = .ok (.if_icmp .ge 77, 3) := by decide +kernel
theorem d_M_clashes_60 : decode b_M_clashes 60 = .ok (.iconst 0, 1) := by decide +kernel
theorem d_M_clashes_61 : decode b_M_clashes 61 = .ok (.istore 4, 2) := by decide +kernel
theorem d_M_clashes_63 : decode b_M_clashes 63 = .ok (.iload 4, 2) := by decide +kernel
theorem d_M_clashes_65 : decode b_M_clashes 65 = .ok (.bipush 8, 2) := by decide +kernel
theorem d_M_clashes_67 : decode b_M_clashes 67 = .ok (.if_icmp .ge 61, 3) := by decide +kernel
theorem d_M_clashes_70 : decode b_M_clashes 70 = .ok (.iload_n 2, 1) := by decide +kernel
theorem d_M_clashes_71 : decode b_M_clashes 71 = .ok (.ifCond .ne 45, 3) := by decide +kernel
theorem d_M_clashes_74 : decode b_M_clashes 74 = .ok (.iload_n 3, 1) := by decide +kernel
theorem d_M_clashes_75 : decode b_M_clashes 75 = .ok (.iload_n 1, 1) := by decide +kernel
theorem d_M_clashes_76 : decode b_M_clashes 76 = .ok (.if_icmp .eq 44, 3) := by decide +kernel
theorem d_M_clashes_79 : decode b_M_clashes 79 = .ok (.aload_n 0, 1) := by decide +kernel
theorem d_M_clashes_80 : decode b_M_clashes 80 = .ok (.getfield 7, 3) := by decide +kernel
theorem d_M_clashes_83 : decode b_M_clashes 83 = .ok (.iload_n 3, 1) := by decide +kernel
theorem d_M_clashes_84 : decode b_M_clashes 84 = .ok (.baload, 1) := by decide +kernel
theorem d_M_clashes_85 : decode b_M_clashes 85 = .ok (.ifCond .eq 35, 3) := by decide +kernel
theorem d_M_clashes_88 : decode b_M_clashes 88 = .ok (.aload_n 0, 1) := by decide +kernel
theorem d_M_clashes_89 : decode b_M_clashes 89 = .ok (.getfield 26, 3) := by decide +kernel
theorem d_M_clashes_92 : decode b_M_clashes 92 = .ok (.bipush 8, 2) := by decide +kernel
theorem d_M_clashes_94 : decode b_M_clashes 94 = .ok (.iload_n 3, 1) := by decide +kernel
theorem d_M_clashes_95 : decode b_M_clashes 95 = .ok (.imul, 1) := by decide +kernel
theorem d_M_clashes_96 : decode b_M_clashes 96 = .ok (.iload 4, 2) := by decide +kernel
theorem d_M_clashes_98 : decode b_M_clashes 98 = .ok (.iadd, 1) := by decide +kernel
theorem d_M_clashes_99 : decode b_M_clashes 99 = .ok (.iaload, 1) := by decide +kernel
theorem d_M_clashes_100 : decode b_M_clashes 100 = .ok (.ifCond .eq 20, 3) := by decide +kernel
theorem d_M_clashes_103 : decode b_M_clashes 103 = .ok (.aload_n 0, 1) := by decide +kernel
theorem d_M_clashes_104 : decode b_M_clashes 104 = .ok (.getfield 26, 3) := by decide +kernel
theorem d_M_clashes_107 : decode b_M_clashes 107 = .ok (.bipush 64, 2) := by decide +kernel
theorem d_M_clashes_109 : decode b_M_clashes 109 = .ok (.iload 4, 2) := by decide +kernel
theorem d_M_clashes_111 : decode b_M_clashes 111 = .ok (.iadd, 1) := by decide +kernel
theorem d_M_clashes_112 : decode b_M_clashes 112 = .ok (.iaload, 1) := by decide +kernel
theorem d_M_clashes_113 : decode b_M_clashes 113 = .ok (.ifCond .eq 7, 3) := by decide +kernel
theorem d_M_clashes_116 : decode b_M_clashes 116 = .ok (.iconst 1, 1) := by decide +kernel
theorem d_M_clashes_117 : decode b_M_clashes 117 = .ok (.goto 4, 3) := by decide +kernel
theorem d_M_clashes_120 : decode b_M_clashes 120 = .ok (.iconst 0, 1) := by decide +kernel
theorem d_M_clashes_121 : decode b_M_clashes 121 = .ok (.istore_n 2, 1) := by decide +kernel
theorem d_M_clashes_122 : decode b_M_clashes 122 = .ok (.iinc 4 1, 3) := by decide +kernel
theorem d_M_clashes_125 : decode b_M_clashes 125 = .ok (.goto (-62), 3) := by decide +kernel
theorem d_M_clashes_128 : decode b_M_clashes 128 = .ok (.iinc 3 1, 3) := by decide +kernel
theorem d_M_clashes_131 : decode b_M_clashes 131 = .ok (.goto (-77), 3) := by decide +kernel
theorem d_M_clashes_134 : decode b_M_clashes 134 = .ok (.iload_n 2, 1) := by decide +kernel
theorem d_M_clashes_135 : decode b_M_clashes 135 = .ok (.ireturn, 1) := by decide +kernel
theorem d_M_install_0 : decode b_M_install 0 = .ok (.aload_n 0, 1) := by decide +kernel
theorem d_M_install_1 : decode b_M_install 1 = .ok (.aload_n 0, 1) := by decide +kernel
theorem d_M_install_2 : decode b_M_install 2 = .ok (.invokevirtual 127, 3) := by decide +kernel
theorem d_M_install_5 : decode b_M_install 5 = .ok (.ifCond .eq 7, 3) := by decide +kernel
theorem d_M_install_8 : decode b_M_install 8 = .ok (.iconst 1, 1) := by decide +kernel
theorem d_M_install_9 : decode b_M_install 9 = .ok (.goto 15, 3) := by decide +kernel
theorem d_M_install_12 : decode b_M_install 12 = .ok (.aload_n 0, 1) := by decide +kernel
theorem d_M_install_13 : decode b_M_install 13 = .ok (.invokevirtual 130, 3) := by decide +kernel
theorem d_M_install_16 : decode b_M_install 16 = .ok (.ifCond .eq 7, 3) := by decide +kernel
theorem d_M_install_19 : decode b_M_install 19 = .ok (.iconst 2, 1) := by decide +kernel
theorem d_M_install_20 : decode b_M_install 20 = .ok (.goto 4, 3) := by decide +kernel
theorem d_M_install_23 : decode b_M_install 23 = .ok (.iconst 0, 1) := by decide +kernel
theorem d_M_install_24 : decode b_M_install 24 = .ok (.putfield 90, 3) := by decide +kernel
theorem d_M_install_27 : decode b_M_install 27 = .ok (.aload_n 0, 1) := by decide +kernel
theorem d_M_install_28 : decode b_M_install 28 = .ok (.getfield 90, 3) := by decide +kernel
theorem d_M_install_31 : decode b_M_install 31 = .ok (.ifCond .le 5, 3) := by decide +kernel
theorem d_M_install_34 : decode b_M_install 34 = .ok (.iconst 0, 1) := by decide +kernel
theorem d_M_install_35 : decode b_M_install 35 = .ok (.ireturn, 1) := by decide +kernel
theorem d_M_install_36 : decode b_M_install 36 = .ok (.aload_n 0, 1) := by decide +kernel
theorem d_M_install_37 : decode b_M_install 37 = .ok (.getfield 97, 3) := by decide +kernel
theorem d_M_install_40 : decode b_M_install 40 = .ok (.istore_n 1, 1) := by decide +kernel
theorem d_M_install_41 : decode b_M_install 41 = .ok (.aload_n 0, 1) := by decide +kernel
theorem d_M_install_42 : decode b_M_install 42 = .ok (.getfield 56, 3) := by decide +kernel
theorem d_M_install_45 : decode b_M_install 45 = .ok (.iload_n 1, 1) := by decide +kernel
theorem d_M_install_46 : decode b_M_install 46 = .ok (.aload_n 0, 1) := by decide +kernel
theorem d_M_install_47 : decode b_M_install 47 = .ok (.getfield 7, 3) := by decide +kernel
theorem d_M_install_50 : decode b_M_install 50 = .ok (.iload_n 1, 1) := by decide +kernel
theorem d_M_install_51 : decode b_M_install 51 = .ok (.baload, 1) := by decide +kernel
theorem d_M_install_52 : decode b_M_install 52 = .ok (.ifCond .eq 20, 3) := by decide +kernel
theorem d_M_install_55 : decode b_M_install 55 = .ok (.aload_n 0, 1) := by decide +kernel
theorem d_M_install_56 : decode b_M_install 56 = .ok (.getfield 56, 3) := by decide +kernel
theorem d_M_install_59 : decode b_M_install 59 = .ok (.iload_n 1, 1) := by decide +kernel
theorem d_M_install_60 : decode b_M_install 60 = .ok (.iaload, 1) := by decide +kernel
theorem d_M_install_61 : decode b_M_install 61 = .ok (.aload_n 0, 1) := by decide +kernel
theorem d_M_install_62 : decode b_M_install 62 = .ok (.getfield 23, 3) := by decide +kernel
theorem d_M_install_65 : decode b_M_install 65 = .ok (.bipush 8, 2) := by decide +kernel
theorem d_M_install_67 : decode b_M_install 67 = .ok (.iaload, 1) := by decide +kernel
theorem d_M_install_68 : decode b_M_install 68 = .ok (.iand, 1) := by decide +kernel
theorem d_M_install_69 : decode b_M_install 69 = .ok (.goto 4, 3) := by decide +kernel
theorem d_M_install_72 : decode b_M_install 72 = .ok (.iconst 0, 1) := by decide +kernel
theorem d_M_install_73 : decode b_M_install 73 = .ok (.iastore, 1) := by decide +kernel
theorem d_M_install_74 : decode b_M_install 74 = .ok (.aload_n 0, 1) := by decide +kernel
theorem d_M_install_75 : decode b_M_install 75 = .ok (.getfield 7, 3) := by decide +kernel
theorem d_M_install_78 : decode b_M_install 78 = .ok (.iload_n 1, 1) := by decide +kernel
theorem d_M_install_79 : decode b_M_install 79 = .ok (.iconst 1, 1) := by decide +kernel
theorem d_M_install_80 : decode b_M_install 80 = .ok (.bastore, 1) := by decide +kernel
theorem d_M_install_81 : decode b_M_install 81 = .ok (.aload_n 0, 1) := by decide +kernel
theorem d_M_install_82 : decode b_M_install 82 = .ok (.getfield 59, 3) := by decide +kernel
theorem d_M_install_85 : decode b_M_install 85 = .ok (.iload_n 1, 1) := by decide +kernel
theorem d_M_install_86 : decode b_M_install 86 = .ok (.iconst 0, 1) := by decide +kernel
theorem d_M_install_87 : decode b_M_install 87 = .ok (.bastore, 1) := by decide +kernel
theorem d_M_install_88 : decode b_M_install 88 = .ok (.aload_n 0, 1) := by decide +kernel
theorem d_M_install_89 : decode b_M_install 89 = .ok (.getfield 13, 3) := by decide +kernel
theorem d_M_install_92 : decode b_M_install 92 = .ok (.iload_n 1, 1) := by decide +kernel
theorem d_M_install_93 : decode b_M_install 93 = .ok (.aload_n 0, 1) := by decide +kernel
theorem d_M_install_94 : decode b_M_install 94 = .ok (.getfield 13, 3) := by decide +kernel
theorem d_M_install_97 : decode b_M_install 97 = .ok (.bipush 8, 2) := by decide +kernel
theorem d_M_install_99 : decode b_M_install 99 = .ok (.iaload, 1) := by decide +kernel
theorem d_M_install_100 : decode b_M_install 100 = .ok (.iastore, 1) := by decide +kernel
theorem d_M_install_101 : decode b_M_install 101 = .ok (.aload_n 0, 1) := by decide +kernel
theorem d_M_install_102 : decode b_M_install 102 = .ok (.getfield 17, 3) := by decide +kernel
theorem d_M_install_105 : decode b_M_install 105 = .ok (.iload_n 1, 1) := by decide +kernel
theorem d_M_install_106 : decode b_M_install 106 = .ok (.aload_n 0, 1) := by decide +kernel
theorem d_M_install_107 : decode b_M_install 107 = .ok (.getfield 17, 3) := by decide +kernel
theorem d_M_install_110 : decode b_M_install 110 = .ok (.bipush 8, 2) := by decide +kernel
theorem d_M_install_112 : decode b_M_install 112 = .ok (.iaload, 1) := by decide +kernel
theorem d_M_install_113 : decode b_M_install 113 = .ok (.iastore, 1) := by decide +kernel
theorem d_M_install_114 : decode b_M_install 114 = .ok (.aload_n 0, 1) := by decide +kernel
theorem d_M_install_115 : decode b_M_install 115 = .ok (.getfield 23, 3) := by decide +kernel
theorem d_M_install_118 : decode b_M_install 118 = .ok (.iload_n 1, 1) := by decide +kernel
theorem d_M_install_119 : decode b_M_install 119 = .ok (.aload_n 0, 1) := by decide +kernel
theorem d_M_install_120 : decode b_M_install 120 = .ok (.getfield 23, 3) := by decide +kernel
theorem d_M_install_123 : decode b_M_install 123 = .ok (.bipush 8, 2) := by decide +kernel
theorem d_M_install_125 : decode b_M_install 125 = .ok (.iaload, 1) := by decide +kernel
theorem d_M_install_126 : decode b_M_install 126 = .ok (.iastore, 1) := by decide +kernel
theorem d_M_install_127 : decode b_M_install 127 = .ok (.aload_n 0, 1) := by decide +kernel
theorem d_M_install_128 : decode b_M_install 128 = .ok (.getfield 29, 3) := by decide +kernel
theorem d_M_install_131 : decode b_M_install 131 = .ok (.iload_n 1, 1) := by decide +kernel
theorem d_M_install_132 : decode b_M_install 132 = .ok (.aload_n 0, 1) := by decide +kernel
theorem d_M_install_133 : decode b_M_install 133 = .ok (.getfield 29, 3) := by decide +kernel
theorem d_M_install_136 : decode b_M_install 136 = .ok (.bipush 8, 2) := by decide +kernel
theorem d_M_install_138 : decode b_M_install 138 = .ok (.iaload, 1) := by decide +kernel
theorem d_M_install_139 : decode b_M_install 139 = .ok (.iastore, 1) := by decide +kernel
theorem d_M_install_140 : decode b_M_install 140 = .ok (.aload_n 0, 1) := by decide +kernel
theorem d_M_install_141 : decode b_M_install 141 = .ok (.getfield 44, 3) := by decide +kernel
theorem d_M_install_144 : decode b_M_install 144 = .ok (.iload_n 1, 1) := by decide +kernel
theorem d_M_install_145 : decode b_M_install 145 = .ok (.aload_n 0, 1) := by decide +kernel
theorem d_M_install_146 : decode b_M_install 146 = .ok (.getfield 44, 3) := by decide +kernel
theorem d_M_install_149 : decode b_M_install 149 = .ok (.bipush 8, 2) := by decide +kernel
theorem d_M_install_151 : decode b_M_install 151 = .ok (.iaload, 1) := by decide +kernel
theorem d_M_install_152 : decode b_M_install 152 = .ok (.iastore, 1) := by decide +kernel
theorem d_M_install_153 : decode b_M_install 153 = .ok (.iconst 0, 1) := by decide +kernel
theorem d_M_install_154 : decode b_M_install 154 = .ok (.istore_n 2, 1) := by decide +kernel
theorem d_M_install_155 : decode b_M_install 155 = .ok (.iload_n 2, 1) := by decide +kernel
theorem d_M_install_156 : decode b_M_install 156 = .ok (.bipush 8, 2) := by decide +kernel
theorem d_M_install_158 : decode b_M_install 158 = .ok (.if_icmp .ge 29, 3) := by decide +kernel
theorem d_M_install_161 : decode b_M_install 161 = .ok (.aload_n 0, 1) := by decide +kernel
theorem d_M_install_162 : decode b_M_install 162 = .ok (.getfield 26, 3) := by decide +kernel
theorem d_M_install_165 : decode b_M_install 165 = .ok (.bipush 8, 2) := by decide +kernel
theorem d_M_install_167 : decode b_M_install 167 = .ok (.iload_n 1, 1) := by decide +kernel
theorem d_M_install_168 : decode b_M_install 168 = .ok (.imul, 1) := by decide +kernel
theorem d_M_install_169 : decode b_M_install 169 = .ok (.iload_n 2, 1) := by decide +kernel
theorem d_M_install_170 : decode b_M_install 170 = .ok (.iadd, 1) := by decide +kernel
theorem d_M_install_171 : decode b_M_install 171 = .ok (.aload_n 0, 1) := by decide +kernel
theorem d_M_install_172 : decode b_M_install 172 = .ok (.getfield 26, 3) := by decide +kernel
theorem d_M_install_175 : decode b_M_install 175 = .ok (.bipush 64, 2) := by decide +kernel
theorem d_M_install_177 : decode b_M_install 177 = .ok (.iload_n 2, 1) := by decide +kernel
theorem d_M_install_178 : decode b_M_install 178 = .ok (.iadd, 1) := by decide +kernel
theorem d_M_install_179 : decode b_M_install 179 = .ok (.iaload, 1) := by decide +kernel
theorem d_M_install_180 : decode b_M_install 180 = .ok (.iastore, 1) := by decide +kernel
theorem d_M_install_181 : decode b_M_install 181 = .ok (.iinc 2 1, 3) := by decide +kernel
theorem d_M_install_184 : decode b_M_install 184 = .ok (.goto (-29), 3) := by decide +kernel
theorem d_M_install_187 : decode b_M_install 187 = .ok (.iconst 0, 1) := by decide +kernel
theorem d_M_install_188 : decode b_M_install 188 = .ok (.istore_n 2, 1) := by decide +kernel
theorem d_M_install_189 : decode b_M_install 189 = .ok (.iload_n 2, 1) := by decide +kernel
theorem d_M_install_190 : decode b_M_install 190 = .ok (.iconst 4, 1) := by decide +kernel
theorem d_M_install_191 : decode b_M_install 191 = .ok (.if_icmp .ge 85, 3) := by decide +kernel
theorem d_M_install_194 : decode b_M_install 194 = .ok (.aload_n 0, 1) := by decide +kernel
theorem d_M_install_195 : decode b_M_install 195 = .ok (.getfield 32, 3) := by decide +kernel
theorem d_M_install_198 : decode b_M_install 198 = .ok (.iconst 4, 1) := by decide +kernel
theorem d_M_install_199 : decode b_M_install 199 = .ok (.iload_n 1, 1) := by decide +kernel
theorem d_M_install_200 : decode b_M_install 200 = .ok (.imul, 1) := by decide +kernel
theorem d_M_install_201 : decode b_M_install 201 = .ok (.iload_n 2, 1) := by decide +kernel
theorem d_M_install_202 : decode b_M_install 202 = .ok (.iadd, 1) := by decide +kernel
theorem d_M_install_203 : decode b_M_install 203 = .ok (.aload_n 0, 1) := by decide +kernel
theorem d_M_install_204 : decode b_M_install 204 = .ok (.getfield 32, 3) := by decide +kernel
theorem d_M_install_207 : decode b_M_install 207 = .ok (.bipush 32, 2) := by decide +kernel
theorem d_M_install_209 : decode b_M_install 209 = .ok (.iload_n 2, 1) := by decide +kernel
theorem d_M_install_210 : decode b_M_install 210 = .ok (.iadd, 1) := by decide +kernel
theorem d_M_install_211 : decode b_M_install 211 = .ok (.iaload, 1) := by decide +kernel
theorem d_M_install_212 : decode b_M_install 212 = .ok (.iastore, 1) := by decide +kernel
theorem d_M_install_213 : decode b_M_install 213 = .ok (.aload_n 0, 1) := by decide +kernel
theorem d_M_install_214 : decode b_M_install 214 = .ok (.getfield 35, 3) := by decide +kernel
theorem d_M_install_217 : decode b_M_install 217 = .ok (.iconst 4, 1) := by decide +kernel
theorem d_M_install_218 : decode b_M_install 218 = .ok (.iload_n 1, 1) := by decide +kernel
theorem d_M_install_219 : decode b_M_install 219 = .ok (.imul, 1) := by decide +kernel
theorem d_M_install_220 : decode b_M_install 220 = .ok (.iload_n 2, 1) := by decide +kernel
theorem d_M_install_221 : decode b_M_install 221 = .ok (.iadd, 1) := by decide +kernel
theorem d_M_install_222 : decode b_M_install 222 = .ok (.aload_n 0, 1) := by decide +kernel
theorem d_M_install_223 : decode b_M_install 223 = .ok (.getfield 35, 3) := by decide +kernel
theorem d_M_install_226 : decode b_M_install 226 = .ok (.bipush 32, 2) := by decide +kernel
theorem d_M_install_228 : decode b_M_install 228 = .ok (.iload_n 2, 1) := by decide +kernel
theorem d_M_install_229 : decode b_M_install 229 = .ok (.iadd, 1) := by decide +kernel
theorem d_M_install_230 : decode b_M_install 230 = .ok (.baload, 1) := by decide +kernel
theorem d_M_install_231 : decode b_M_install 231 = .ok (.bastore, 1) := by decide +kernel
theorem d_M_install_232 : decode b_M_install 232 = .ok (.aload_n 0, 1) := by decide +kernel
theorem d_M_install_233 : decode b_M_install 233 = .ok (.getfield 38, 3) := by decide +kernel
theorem d_M_install_236 : decode b_M_install 236 = .ok (.iconst 4, 1) := by decide +kernel
theorem d_M_install_237 : decode b_M_install 237 = .ok (.iload_n 1, 1) := by decide +kernel
theorem d_M_install_238 : decode b_M_install 238 = .ok (.imul, 1) := by decide +kernel
theorem d_M_install_239 : decode b_M_install 239 = .ok (.iload_n 2, 1) := by decide +kernel
theorem d_M_install_240 : decode b_M_install 240 = .ok (.iadd, 1) := by decide +kernel
theorem d_M_install_241 : decode b_M_install 241 = .ok (.aload_n 0, 1) := by decide +kernel
theorem d_M_install_242 : decode b_M_install 242 = .ok (.getfield 38, 3) := by decide +kernel
theorem d_M_install_245 : decode b_M_install 245 = .ok (.bipush 32, 2) := by decide +kernel
theorem d_M_install_247 : decode b_M_install 247 = .ok (.iload_n 2, 1) := by decide +kernel
theorem d_M_install_248 : decode b_M_install 248 = .ok (.iadd, 1) := by decide +kernel
theorem d_M_install_249 : decode b_M_install 249 = .ok (.iaload, 1) := by decide +kernel
theorem d_M_install_250 : decode b_M_install 250 = .ok (.iastore, 1) := by decide +kernel
theorem d_M_install_251 : decode b_M_install 251 = .ok (.aload_n 0, 1) := by decide +kernel
theorem d_M_install_252 : decode b_M_install 252 = .ok (.getfield 41, 3) := by decide +kernel
theorem d_M_install_255 : decode b_M_install 255 = .ok (.iconst 4, 1) := by decide +kernel
theorem d_M_install_256 : decode b_M_install 256 = .ok (.iload_n 1, 1) := by decide +kernel
theorem d_M_install_257 : decode b_M_install 257 = .ok (.imul, 1) := by decide +kernel
theorem d_M_install_258 : decode b_M_install 258 = .ok (.iload_n 2, 1) := by decide +kernel
theorem d_M_install_259 : decode b_M_install 259 = .ok (.iadd, 1) := by decide +kernel
theorem d_M_install_260 : decode b_M_install 260 = .ok (.aload_n 0, 1) := by decide +kernel
theorem d_M_install_261 : decode b_M_install 261 = .ok (.getfield 41, 3) := by decide +kernel
theorem d_M_install_264 : decode b_M_install 264 = .ok (.bipush 32, 2) := by decide +kernel
theorem d_M_install_266 : decode b_M_install 266 = .ok (.iload_n 2, 1) := by decide +kernel
theorem d_M_install_267 : decode b_M_install 267 = .ok (.iadd, 1) := by decide +kernel
theorem d_M_install_268 : decode b_M_install 268 = .ok (.iaload, 1) := by decide +kernel
theorem d_M_install_269 : decode b_M_install 269 = .ok (.iastore, 1) := by decide +kernel
theorem d_M_install_270 : decode b_M_install 270 = .ok (.iinc 2 1, 3) := by decide +kernel
theorem d_M_install_273 : decode b_M_install 273 = .ok (.goto (-84), 3) := by decide +kernel
theorem d_M_install_276 : decode b_M_install 276 = .ok (.iconst 0, 1) := by decide +kernel
theorem d_M_install_277 : decode b_M_install 277 = .ok (.istore_n 2, 1) := by decide +kernel
theorem d_M_install_278 : decode b_M_install 278 = .ok (.iload_n 2, 1) := by decide +kernel
theorem d_M_install_279 : decode b_M_install 279 = .ok (.bipush 24, 2) := by decide +kernel
theorem d_M_install_281 : decode b_M_install 281 = .ok (.if_icmp .ge 30, 3) := by decide +kernel
theorem d_M_install_284 : decode b_M_install 284 = .ok (.aload_n 0, 1) := by decide +kernel
theorem d_M_install_285 : decode b_M_install 285 = .ok (.getfield 47, 3) := by decide +kernel
theorem d_M_install_288 : decode b_M_install 288 = .ok (.bipush 24, 2) := by decide +kernel
theorem d_M_install_290 : decode b_M_install 290 = .ok (.iload_n 1, 1) := by decide +kernel
