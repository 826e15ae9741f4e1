theorem dX6_init_0 : decode cX6_init 0 = .ok (.aload_n 0, 1) := by decide +kernel
theorem dX6_init_1 : decode cX6_init 1 = .ok (.invokespecial 1, 3) := by decide +kernel
theorem dX6_init_4 : decode cX6_init 4 = .ok (.aload_n 0, 1) := by decide +kernel
theorem dX6_init_5 : decode cX6_init 5 = .ok (.bipush 64, 2) := by decide +kernel
theorem dX6_init_7 : decode cX6_init 7 = .ok (.newarray .boolean, 2) := by decide +kernel
theorem dX6_init_9 : decode cX6_init 9 = .ok (.putfield 7, 3) := by decide +kernel
theorem dX6_init_12 : decode cX6_init 12 = .ok (.aload_n 0, 1) := by decide +kernel
theorem dX6_init_13 : decode cX6_init 13 = .ok (.bipush 64, 2) := by decide +kernel
theorem dX6_init_15 : decode cX6_init 15 = .ok (.newarray .int, 2) := by decide +kernel
theorem dX6_init_17 : decode cX6_init 17 = .ok (.putfield 13, 3) := by decide +kernel
theorem dX6_init_20 : decode cX6_init 20 = .ok (.aload_n 0, 1) := by decide +kernel
theorem dX6_init_21 : decode cX6_init 21 = .ok (.bipush 64, 2) := by decide +kernel
theorem dX6_init_23 : decode cX6_init 23 = .ok (.newarray .int, 2) := by decide +kernel
theorem dX6_init_25 : decode cX6_init 25 = .ok (.putfield 17, 3) := by decide +kernel
theorem dX6_init_28 : decode cX6_init 28 = .ok (.aload_n 0, 1) := by decide +kernel
theorem dX6_init_29 : decode cX6_init 29 = .ok (.iconst 4, 1) := by decide +kernel
theorem dX6_init_30 : decode cX6_init 30 = .ok (.newarray .int, 2) := by decide +kernel
theorem dX6_init_32 : decode cX6_init 32 = .ok (.putfield 20, 3) := by decide +kernel
theorem dX6_init_35 : decode cX6_init 35 = .ok (.aload_n 0, 1) := by decide +kernel
theorem dX6_init_36 : decode cX6_init 36 = .ok (.sipush 320, 3) := by decide +kernel
theorem dX6_init_39 : decode cX6_init 39 = .ok (.newarray .int, 2) := by decide +kernel
theorem dX6_init_41 : decode cX6_init 41 = .ok (.putfield 23, 3) := by decide +kernel
theorem dX6_init_44 : decode cX6_init 44 = .ok (.aload_n 0, 1) := by decide +kernel
theorem dX6_init_45 : decode cX6_init 45 = .ok (.sipush 320, 3) := by decide +kernel
theorem dX6_init_48 : decode cX6_init 48 = .ok (.newarray .int, 2) := by decide +kernel
theorem dX6_init_50 : decode cX6_init 50 = .ok (.putfield 26, 3) := by decide +kernel
theorem dX6_init_53 : decode cX6_init 53 = .ok (.aload_n 0, 1) := by decide +kernel
theorem dX6_init_54 : decode cX6_init 54 = .ok (.sipush 320, 3) := by decide +kernel
theorem dX6_init_57 : decode cX6_init 57 = .ok (.newarray .int, 2) := by decide +kernel
theorem dX6_init_59 : decode cX6_init 59 = .ok (.putfield 29, 3) := by decide +kernel
theorem dX6_init_62 : decode cX6_init 62 = .ok (.aload_n 0, 1) := by decide +kernel
theorem dX6_init_63 : decode cX6_init 63 = .ok (.sipush 320, 3) := by decide +kernel
theorem dX6_init_66 : decode cX6_init 66 = .ok (.newarray .int, 2) := by decide +kernel
theorem dX6_init_68 : decode cX6_init 68 = .ok (.putfield 32, 3) := by decide +kernel
theorem dX6_init_71 : decode cX6_init 71 = .ok (.aload_n 0, 1) := by decide +kernel
theorem dX6_init_72 : decode cX6_init 72 = .ok (.bipush 16, 2) := by decide +kernel
theorem dX6_init_74 : decode cX6_init 74 = .ok (.newarray .int, 2) := by decide +kernel
theorem dX6_init_76 : decode cX6_init 76 = .ok (.putfield 35, 3) := by decide +kernel
theorem dX6_init_79 : decode cX6_init 79 = .ok (.aload_n 0, 1) := by decide +kernel
theorem dX6_init_80 : decode cX6_init 80 = .ok (.bipush 16, 2) := by decide +kernel
theorem dX6_init_82 : decode cX6_init 82 = .ok (.newarray .boolean, 2) := by decide +kernel
theorem dX6_init_84 : decode cX6_init 84 = .ok (.putfield 38, 3) := by decide +kernel
theorem dX6_init_87 : decode cX6_init 87 = .ok (.aload_n 0, 1) := by decide +kernel
theorem dX6_init_88 : decode cX6_init 88 = .ok (.iconst 4, 1) := by decide +kernel
theorem dX6_init_89 : decode cX6_init 89 = .ok (.newarray .int, 2) := by decide +kernel
theorem dX6_init_91 : decode cX6_init 91 = .ok (.putfield 41, 3) := by decide +kernel
theorem dX6_init_94 : decode cX6_init 94 = .ok (.aload_n 0, 1) := by decide +kernel
theorem dX6_init_95 : decode cX6_init 95 = .ok (.bipush 48, 2) := by decide +kernel
theorem dX6_init_97 : decode cX6_init 97 = .ok (.newarray .int, 2) := by decide +kernel
theorem dX6_init_99 : decode cX6_init 99 = .ok (.putfield 44, 3) := by decide +kernel
theorem dX6_init_102 : decode cX6_init 102 = .ok (.aload_n 0, 1) := by decide +kernel
theorem dX6_init_103 : decode cX6_init 103 = .ok (.bipush 48, 2) := by decide +kernel
theorem dX6_init_105 : decode cX6_init 105 = .ok (.newarray .int, 2) := by decide +kernel
theorem dX6_init_107 : decode cX6_init 107 = .ok (.putfield 47, 3) := by decide +kernel
theorem dX6_init_110 : decode cX6_init 110 = .ok (.aload_n 0, 1) := by decide +kernel
theorem dX6_init_111 : decode cX6_init 111 = .ok (.bipush 48, 2) := by decide +kernel
theorem dX6_init_113 : decode cX6_init 113 = .ok (.newarray .int, 2) := by decide +kernel
theorem dX6_init_115 : decode cX6_init 115 = .ok (.putfield 50, 3) := by decide +kernel
theorem dX6_init_118 : decode cX6_init 118 = .ok (.aload_n 0, 1) := by decide +kernel
theorem dX6_init_119 : decode cX6_init 119 = .ok (.bipush 48, 2) := by decide +kernel
theorem dX6_init_121 : decode cX6_init 121 = .ok (.newarray .int, 2) := by decide +kernel
theorem dX6_init_123 : decode cX6_init 123 = .ok (.putfield 53, 3) := by decide +kernel
theorem dX6_init_126 : decode cX6_init 126 = .ok (.aload_n 0, 1) := by decide +kernel
theorem dX6_init_127 : decode cX6_init 127 = .ok (.sipush 240, 3) := by decide +kernel
theorem dX6_init_130 : decode cX6_init 130 = .ok (.newarray .boolean, 2) := by decide +kernel
theorem dX6_init_132 : decode cX6_init 132 = .ok (.putfield 56, 3) := by decide +kernel
theorem dX6_init_135 : decode cX6_init 135 = .ok (.aload_n 0, 1) := by decide +kernel
theorem dX6_init_136 : decode cX6_init 136 = .ok (.sipush 240, 3) := by decide +kernel
theorem dX6_init_139 : decode cX6_init 139 = .ok (.newarray .int, 2) := by decide +kernel
theorem dX6_init_141 : decode cX6_init 141 = .ok (.putfield 59, 3) := by decide +kernel
theorem dX6_init_144 : decode cX6_init 144 = .ok (.aload_n 0, 1) := by decide +kernel
theorem dX6_init_145 : decode cX6_init 145 = .ok (.sipush 240, 3) := by decide +kernel
theorem dX6_init_148 : decode cX6_init 148 = .ok (.newarray .int, 2) := by decide +kernel
theorem dX6_init_150 : decode cX6_init 150 = .ok (.putfield 62, 3) := by decide +kernel
theorem dX6_init_153 : decode cX6_init 153 = .ok (.aload_n 0, 1) := by decide +kernel
theorem dX6_init_154 : decode cX6_init 154 = .ok (.sipush 240, 3) := by decide +kernel
theorem dX6_init_157 : decode cX6_init 157 = .ok (.newarray .int, 2) := by decide +kernel
theorem dX6_init_159 : decode cX6_init 159 = .ok (.putfield 65, 3) := by decide +kernel
theorem dX6_init_162 : decode cX6_init 162 = .ok (.aload_n 0, 1) := by decide +kernel
theorem dX6_init_163 : decode cX6_init 163 = .ok (.sipush 2880, 3) := by decide +kernel
theorem dX6_init_166 : decode cX6_init 166 = .ok (.newarray .int, 2) := by decide +kernel
theorem dX6_init_168 : decode cX6_init 168 = .ok (.putfield 68, 3) := by decide +kernel
theorem dX6_init_171 : decode cX6_init 171 = .ok (.aload_n 0, 1) := by decide +kernel
theorem dX6_init_172 : decode cX6_init 172 = .ok (.bipush 13, 2) := by decide +kernel
theorem dX6_init_174 : decode cX6_init 174 = .ok (.newarray .int, 2) := by decide +kernel
theorem dX6_init_176 : decode cX6_init 176 = .ok (.putfield 71, 3) := by decide +kernel
theorem dX6_init_179 : decode cX6_init 179 = .ok (.aload_n 0, 1) := by decide +kernel
theorem dX6_init_180 : decode cX6_init 180 = .ok (.bipush 48, 2) := by decide +kernel
theorem dX6_init_182 : decode cX6_init 182 = .ok (.newarray .int, 2) := by decide +kernel
theorem dX6_init_184 : decode cX6_init 184 = .ok (.putfield 74, 3) := by decide +kernel
theorem dX6_init_187 : decode cX6_init 187 = .ok (.aload_n 0, 1) := by decide +kernel
theorem dX6_init_188 : decode cX6_init 188 = .ok (.bipush 50, 2) := by decide +kernel
theorem dX6_init_190 : decode cX6_init 190 = .ok (.newarray .int, 2) := by decide +kernel
theorem dX6_init_192 : decode cX6_init 192 = .ok (.putfield 77, 3) := by decide +kernel
theorem dX6_init_195 : decode cX6_init 195 = .ok (.aload_n 0, 1) := by decide +kernel
theorem dX6_init_196 : decode cX6_init 196 = .ok (.bipush 50, 2) := by decide +kernel
theorem dX6_init_198 : decode cX6_init 198 = .ok (.newarray .int, 2) := by decide +kernel
theorem dX6_init_200 : decode cX6_init 200 = .ok (.putfield 80, 3) := by decide +kernel
theorem dX6_init_203 : decode cX6_init 203 = .ok (.iconst 0, 1) := by decide +kernel
theorem dX6_init_204 : decode cX6_init 204 = .ok (.istore_n 1, 1) := by decide +kernel
theorem dX6_init_205 : decode cX6_init 205 = .ok (.iload_n 1, 1) := by decide +kernel
theorem dX6_init_206 : decode cX6_init 206 = .ok (.iconst 4, 1) := by decide +kernel
theorem dX6_init_207 : decode cX6_init 207 = .ok (.if_icmp .ge 17, 3) := by decide +kernel
theorem dX6_init_210 : decode cX6_init 210 = .ok (.aload_n 0, 1) := by decide +kernel
theorem dX6_init_211 : decode cX6_init 211 = .ok (.getfield 41, 3) := by decide +kernel
theorem dX6_init_214 : decode cX6_init 214 = .ok (.iload_n 1, 1) := by decide +kernel
theorem dX6_init_215 : decode cX6_init 215 = .ok (.bipush 100, 2) := by decide +kernel
theorem dX6_init_217 : decode cX6_init 217 = .ok (.iastore, 1) := by decide +kernel
theorem dX6_init_218 : decode cX6_init 218 = .ok (.iinc 1 1, 3) := by decide +kernel
theorem dX6_init_221 : decode cX6_init 221 = .ok (.goto (-16), 3) := by decide +kernel
theorem dX6_init_224 : decode cX6_init 224 = .ok (.iconst 0, 1) := by decide +kernel
theorem dX6_init_225 : decode cX6_init 225 = .ok (.istore_n 1, 1) := by decide +kernel
theorem dX6_init_226 : decode cX6_init 226 = .ok (.iload_n 1, 1) := by decide +kernel
theorem dX6_init_227 : decode cX6_init 227 = .ok (.sipush 320, 3) := by decide +kernel
theorem dX6_init_230 : decode cX6_init 230 = .ok (.if_icmp .ge 16, 3) := by decide +kernel
theorem dX6_init_233 : decode cX6_init 233 = .ok (.aload_n 0, 1) := by decide +kernel
theorem dX6_init_234 : decode cX6_init 234 = .ok (.getfield 23, 3) := by decide +kernel
theorem dX6_init_237 : decode cX6_init 237 = .ok (.iload_n 1, 1) := by decide +kernel
theorem dX6_init_238 : decode cX6_init 238 = .ok (.iconst 4, 1) := by decide +kernel
theorem dX6_init_239 : decode cX6_init 239 = .ok (.iastore, 1) := by decide +kernel
theorem dX6_init_240 : decode cX6_init 240 = .ok (.iinc 1 1, 3) := by decide +kernel
theorem dX6_init_243 : decode cX6_init 243 = .ok (.goto (-17), 3) := by decide +kernel
theorem dX6_init_246 : decode cX6_init 246 = .ok (.return_, 1) := by decide +kernel
theorem dX6_thrown_0 : decode cX6_thrown 0 = .ok (.aload_n 0, 1) := by decide +kernel
theorem dX6_thrown_1 : decode cX6_thrown 1 = .ok (.getfield 83, 3) := by decide +kernel
theorem dX6_thrown_4 : decode cX6_thrown 4 = .ok (.ireturn, 1) := by decide +kernel
theorem dX6_refused_0 : decode cX6_refused 0 = .ok (.aload_n 0, 1) := by decide +kernel
theorem dX6_refused_1 : decode cX6_refused 1 = .ok (.iload_n 1, 1) := by decide +kernel
theorem dX6_refused_2 : decode cX6_refused 2 = .ok (.putfield 83, 3) := by decide +kernel
theorem dX6_refused_5 : decode cX6_refused 5 = .ok (.iload_n 1, 1) := by decide +kernel
theorem dX6_refused_6 : decode cX6_refused 6 = .ok (.ifCond .eq 7, 3) := by decide +kernel
theorem dX6_refused_9 : decode cX6_refused 9 = .ok (.iconst 1, 1) := by decide +kernel
theorem dX6_refused_10 : decode cX6_refused 10 = .ok (.goto 4, 3) := by decide +kernel
theorem dX6_refused_13 : decode cX6_refused 13 = .ok (.iconst 0, 1) := by decide +kernel
theorem dX6_refused_14 : decode cX6_refused 14 = .ok (.ireturn, 1) := by decide +kernel
theorem dX6_in_0 : decode cX6_in 0 = .ok (.iload_n 0, 1) := by decide +kernel
theorem dX6_in_1 : decode cX6_in 1 = .ok (.iload_n 1, 1) := by decide +kernel
theorem dX6_in_2 : decode cX6_in 2 = .ok (.if_icmp .lt 12, 3) := by decide +kernel
theorem dX6_in_5 : decode cX6_in 5 = .ok (.iload_n 0, 1) := by decide +kernel
theorem dX6_in_6 : decode cX6_in 6 = .ok (.iload_n 2, 1) := by decide +kernel
theorem dX6_in_7 : decode cX6_in 7 = .ok (.if_icmp .gt 7, 3) := by decide +kernel
theorem dX6_in_10 : decode cX6_in 10 = .ok (.iconst 1, 1) := by decide +kernel
theorem dX6_in_11 : decode cX6_in 11 = .ok (.goto 4, 3) := by decide +kernel
theorem dX6_in_14 : decode cX6_in 14 = .ok (.iconst 0, 1) := by decide +kernel
theorem dX6_in_15 : decode cX6_in 15 = .ok (.ireturn, 1) := by decide +kernel
theorem dX6_isClass_0 : decode cX6_isClass 0 = .ok (.iload_n 0, 1) := by decide +kernel
theorem dX6_isClass_1 : decode cX6_isClass 1 = .ok (.iconst 0, 1) := by decide +kernel
theorem dX6_isClass_2 : decode cX6_isClass 2 = .ok (.iconst 3, 1) := by decide +kernel
theorem dX6_isClass_3 : decode cX6_isClass 3 = .ok (.invokestatic 87, 3) := by decide +kernel
theorem dX6_isClass_6 : decode cX6_isClass 6 = .ok (.ireturn, 1) := by decide +kernel
theorem dX6_isPupil_0 : decode cX6_isPupil 0 = .ok (.iload_n 0, 1) := by decide +kernel
theorem dX6_isPupil_1 : decode cX6_isPupil 1 = .ok (.iconst 0, 1) := by decide +kernel
theorem dX6_isPupil_2 : decode cX6_isPupil 2 = .ok (.bipush 11, 2) := by decide +kernel
theorem dX6_isPupil_4 : decode cX6_isPupil 4 = .ok (.invokestatic 87, 3) := by decide +kernel
theorem dX6_isPupil_7 : decode cX6_isPupil 7 = .ok (.ireturn, 1) := by decide +kernel
theorem dX6_isSheet_0 : decode cX6_isSheet 0 = .ok (.iload_n 1, 1) := by decide +kernel
theorem dX6_isSheet_1 : decode cX6_isSheet 1 = .ok (.iconst 0, 1) := by decide +kernel
theorem dX6_isSheet_2 : decode cX6_isSheet 2 = .ok (.aload_n 0, 1) := by decide +kernel
theorem dX6_isSheet_3 : decode cX6_isSheet 3 = .ok (.getfield 91, 3) := by decide +kernel
theorem dX6_isSheet_6 : decode cX6_isSheet 6 = .ok (.iconst 1, 1) := by decide +kernel
theorem dX6_isSheet_7 : decode cX6_isSheet 7 = .ok (.isub, 1) := by decide +kernel
theorem dX6_isSheet_8 : decode cX6_isSheet 8 = .ok (.invokestatic 87, 3) := by decide +kernel
theorem dX6_isSheet_11 : decode cX6_isSheet 11 = .ok (.ireturn, 1) := by decide +kernel
theorem dX6_isVersion_0 : decode cX6_isVersion 0 = .ok (.aload_n 0, 1) := by decide +kernel
theorem dX6_isVersion_1 : decode cX6_isVersion 1 = .ok (.iload_n 1, 1) := by decide +kernel
theorem dX6_isVersion_2 : decode cX6_isVersion 2 = .ok (.invokevirtual 94, 3) := by decide +kernel
theorem dX6_isVersion_5 : decode cX6_isVersion 5 = .ok (.ifCond .eq 31, 3) := by decide +kernel
theorem dX6_isVersion_8 : decode cX6_isVersion 8 = .ok (.iload_n 2, 1) := by decide +kernel
theorem dX6_isVersion_9 : decode cX6_isVersion 9 = .ok (.iconst 0, 1) := by decide +kernel
theorem dX6_isVersion_10 : decode cX6_isVersion 10 = .ok (.bipush 15, 2) := by decide +kernel
theorem dX6_isVersion_12 : decode cX6_isVersion 12 = .ok (.invokestatic 87, 3) := by decide +kernel
theorem dX6_isVersion_15 : decode cX6_isVersion 15 = .ok (.ifCond .eq 21, 3) := by decide +kernel
theorem dX6_isVersion_18 : decode cX6_isVersion 18 = .ok (.aload_n 0, 1) := by decide +kernel
theorem dX6_isVersion_19 : decode cX6_isVersion 19 = .ok (.getfield 7, 3) := by decide +kernel
theorem dX6_isVersion_22 : decode cX6_isVersion 22 = .ok (.bipush 16, 2) := by decide +kernel
theorem dX6_isVersion_24 : decode cX6_isVersion 24 = .ok (.iload_n 1, 1) := by decide +kernel
theorem dX6_isVersion_25 : decode cX6_isVersion 25 = .ok (.imul, 1) := by decide +kernel
theorem dX6_isVersion_26 : decode cX6_isVersion 26 = .ok (.iload_n 2, 1) := by decide +kernel
theorem dX6_isVersion_27 : decode cX6_isVersion 27 = .ok (.iadd, 1) := by decide +kernel
theorem dX6_isVersion_28 : decode cX6_isVersion 28 = .ok (.baload, 1) := by decide +kernel
theorem dX6_isVersion_29 : decode cX6_isVersion 29 = .ok (.ifCond .eq 7, 3) := by decide +kernel
theorem dX6_isVersion_32 : decode cX6_isVersion 32 = .ok (.iconst 1, 1) := by decide +kernel
theorem dX6_isVersion_33 : decode cX6_isVersion 33 = .ok (.goto 4, 3) := by decide +kernel
theorem dX6_isVersion_36 : decode cX6_isVersion 36 = .ok (.iconst 0, 1) := by decide +kernel
theorem dX6_isVersion_37 : decode cX6_isVersion 37 = .ok (.ireturn, 1) := by decide +kernel
theorem dX6_isTask_0 : decode cX6_isTask 0 = .ok (.iload_n 0, 1) := by decide +kernel
theorem dX6_isTask_1 : decode cX6_isTask 1 = .ok (.iconst 0, 1) := by decide +kernel
theorem dX6_isTask_2 : decode cX6_isTask 2 = .ok (.iconst 4, 1) := by decide +kernel
theorem dX6_isTask_3 : decode cX6_isTask 3 = .ok (.invokestatic 87, 3) := by decide +kernel
theorem dX6_isTask_6 : decode cX6_isTask 6 = .ok (.ireturn, 1) := by decide +kernel
theorem dX6_wordAt_0 : decode cX6_wordAt 0 = .ok (.iload_n 0, 1) := by decide +kernel
theorem dX6_wordAt_1 : decode cX6_wordAt 1 = .ok (.iconst 5, 1) := by decide +kernel
theorem dX6_wordAt_2 : decode cX6_wordAt 2 = .ok (.iload_n 1, 1) := by decide +kernel
theorem dX6_wordAt_3 : decode cX6_wordAt 3 = .ok (.imul, 1) := by decide +kernel
theorem dX6_wordAt_4 : decode cX6_wordAt 4 = .ok (.ishr, 1) := by decide +kernel
theorem dX6_wordAt_5 : decode cX6_wordAt 5 = .ok (.bipush 31, 2) := by decide +kernel
theorem dX6_wordAt_7 : decode cX6_wordAt 7 = .ok (.iand, 1) := by decide +kernel
theorem dX6_wordAt_8 : decode cX6_wordAt 8 = .ok (.ireturn, 1) := by decide +kernel
theorem dX6_lengthOf_0 : decode cX6_lengthOf 0 = .ok (.iconst 0, 1) := by decide +kernel
theorem dX6_lengthOf_1 : decode cX6_lengthOf 1 = .ok (.istore_n 1, 1) := by decide +kernel
theorem dX6_lengthOf_2 : decode cX6_lengthOf 2 = .ok (.iload_n 1, 1) := by decide +kernel
theorem dX6_lengthOf_3 : decode cX6_lengthOf 3 = .ok (.bipush 6, 2) := by decide +kernel
theorem dX6_lengthOf_5 : decode cX6_lengthOf 5 = .ok (.if_icmp .ge 17, 3) := by decide +kernel
theorem dX6_lengthOf_8 : decode cX6_lengthOf 8 = .ok (.iload_n 0, 1) := by decide +kernel
theorem dX6_lengthOf_9 : decode cX6_lengthOf 9 = .ok (.iload_n 1, 1) := by decide +kernel
theorem dX6_lengthOf_10 : decode cX6_lengthOf 10 = .ok (.invokestatic 98, 3) := by decide +kernel
theorem dX6_lengthOf_13 : decode cX6_lengthOf 13 = .ok (.ifCond .eq 9, 3) := by decide +kernel
theorem dX6_lengthOf_16 : decode cX6_lengthOf 16 = .ok (.iinc 1 1, 3) := by decide +kernel
theorem dX6_lengthOf_19 : decode cX6_lengthOf 19 = .ok (.goto (-17), 3) := by decide +kernel
theorem dX6_lengthOf_22 : decode cX6_lengthOf 22 = .ok (.iload_n 1, 1) := by decide +kernel
theorem dX6_lengthOf_23 : decode cX6_lengthOf 23 = .ok (.ireturn, 1) := by decide +kernel
theorem dX6_isRow_0 : decode cX6_isRow 0 = .ok (.iload_n 0, 1) := by decide +kernel
theorem dX6_isRow_1 : decode cX6_isRow 1 = .ok (.ifCond .le 24, 3) := by decide +kernel
theorem dX6_isRow_4 : decode cX6_isRow 4 = .ok (.iload_n 0, 1) := by decide +kernel
theorem dX6_isRow_5 : decode cX6_isRow 5 = .ok (.ldc 102, 2) := by decide +kernel
theorem dX6_isRow_7 : decode cX6_isRow 7 = .ok (.if_icmp .ge 18, 3) := by decide +kernel
theorem dX6_isRow_10 : decode cX6_isRow 10 = .ok (.iload_n 0, 1) := by decide +kernel
theorem dX6_isRow_11 : decode cX6_isRow 11 = .ok (.iconst 5, 1) := by decide +kernel
theorem dX6_isRow_12 : decode cX6_isRow 12 = .ok (.iload_n 0, 1) := by decide +kernel
theorem dX6_isRow_13 : decode cX6_isRow 13 = .ok (.invokestatic 103, 3) := by decide +kernel
theorem dX6_isRow_16 : decode cX6_isRow 16 = .ok (.imul, 1) := by decide +kernel
theorem dX6_isRow_17 : decode cX6_isRow 17 = .ok (.ishr, 1) := by decide +kernel
theorem dX6_isRow_18 : decode cX6_isRow 18 = .ok (.ifCond .ne 7, 3) := by decide +kernel
theorem dX6_isRow_21 : decode cX6_isRow 21 = .ok (.iconst 1, 1) := by decide +kernel
theorem dX6_isRow_22 : decode cX6_isRow 22 = .ok (.goto 4, 3) := by decide +kernel
theorem dX6_isRow_25 : decode cX6_isRow 25 = .ok (.iconst 0, 1) := by decide +kernel
theorem dX6_isRow_26 : decode cX6_isRow 26 = .ok (.ireturn, 1) := by decide +kernel
theorem dX6_entryFor_0 : decode cX6_entryFor 0 = .ok (.iload_n 2, 1) := by decide +kernel
theorem dX6_entryFor_1 : decode cX6_entryFor 1 = .ok (.istore 4, 2) := by decide +kernel
theorem dX6_entryFor_3 : decode cX6_entryFor 3 = .ok (.iload 4, 2) := by decide +kernel
theorem dX6_entryFor_5 : decode cX6_entryFor 5 = .ok (.iconst (-1), 1) := by decide +kernel
theorem dX6_entryFor_6 : decode cX6_entryFor 6 = .ok (.if_icmp .eq 40, 3) := by decide +kernel
theorem dX6_entryFor_9 : decode cX6_entryFor 9 = .ok (.aload_n 0, 1) := by decide +kernel
theorem dX6_entryFor_10 : decode cX6_entryFor 10 = .ok (.getfield 23, 3) := by decide +kernel
theorem dX6_entryFor_13 : decode cX6_entryFor 13 = .ok (.iconst 5, 1) := by decide +kernel
theorem dX6_entryFor_14 : decode cX6_entryFor 14 = .ok (.bipush 16, 2) := by decide +kernel
theorem dX6_entryFor_16 : decode cX6_entryFor 16 = .ok (.iload_n 1, 1) := by decide +kernel
theorem dX6_entryFor_17 : decode cX6_entryFor 17 = .ok (.imul, 1) := by decide +kernel
theorem dX6_entryFor_18 : decode cX6_entryFor 18 = .ok (.iload 4, 2) := by decide +kernel
theorem dX6_entryFor_20 : decode cX6_entryFor 20 = .ok (.iadd, 1) := by decide +kernel
theorem dX6_entryFor_21 : decode cX6_entryFor 21 = .ok (.imul, 1) := by decide +kernel
theorem dX6_entryFor_22 : decode cX6_entryFor 22 = .ok (.iload_n 3, 1) := by decide +kernel
theorem dX6_entryFor_23 : decode cX6_entryFor 23 = .ok (.iadd, 1) := by decide +kernel
theorem dX6_entryFor_24 : decode cX6_entryFor 24 = .ok (.iaload, 1) := by decide +kernel
theorem dX6_entryFor_25 : decode cX6_entryFor 25 = .ok (.iconst 4, 1) := by decide +kernel
theorem dX6_entryFor_26 : decode cX6_entryFor 26 = .ok (.if_icmp .ne 20, 3) := by decide +kernel
theorem dX6_entryFor_29 : decode cX6_entryFor 29 = .ok (.aload_n 0, 1) := by decide +kernel
theorem dX6_entryFor_30 : decode cX6_entryFor 30 = .ok (.getfield 13, 3) := by decide +kernel
theorem dX6_entryFor_33 : decode cX6_entryFor 33 = .ok (.bipush 16, 2) := by decide +kernel
theorem dX6_entryFor_35 : decode cX6_entryFor 35 = .ok (.iload_n 1, 1) := by decide +kernel
theorem dX6_entryFor_36 : decode cX6_entryFor 36 = .ok (.imul, 1) := by decide +kernel
theorem dX6_entryFor_37 : decode cX6_entryFor 37 = .ok (.iload 4, 2) := by decide +kernel
theorem dX6_entryFor_39 : decode cX6_entryFor 39 = .ok (.iadd, 1) := by decide +kernel
theorem dX6_entryFor_40 : decode cX6_entryFor 40 = .ok (.iaload, 1) := by decide +kernel
theorem dX6_entryFor_41 : decode cX6_entryFor 41 = .ok (.istore 4, 2) := by decide +kernel
theorem dX6_entryFor_43 : decode cX6_entryFor 43 = .ok (.goto (-40), 3) := by decide +kernel
theorem dX6_entryFor_46 : decode cX6_entryFor 46 = .ok (.iload 4, 2) := by decide +kernel
theorem dX6_entryFor_48 : decode cX6_entryFor 48 = .ok (.iconst (-1), 1) := by decide +kernel
theorem dX6_entryFor_49 : decode cX6_entryFor 49 = .ok (.if_icmp .ne 7, 3) := by decide +kernel
theorem dX6_entryFor_52 : decode cX6_entryFor 52 = .ok (.iconst (-1), 1) := by decide +kernel
theorem dX6_entryFor_53 : decode cX6_entryFor 53 = .ok (.goto 14, 3) := by decide +kernel
theorem dX6_entryFor_56 : decode cX6_entryFor 56 = .ok (.iconst 5, 1) := by decide +kernel
theorem dX6_entryFor_57 : decode cX6_entryFor 57 = .ok (.bipush 16, 2) := by decide +kernel
theorem dX6_entryFor_59 : decode cX6_entryFor 59 = .ok (.iload_n 1, 1) := by decide +kernel
theorem dX6_entryFor_60 : decode cX6_entryFor 60 = .ok (.imul, 1) := by decide +kernel
theorem dX6_entryFor_61 : decode cX6_entryFor 61 = .ok (.iload 4, 2) := by decide +kernel
theorem dX6_entryFor_63 : decode cX6_entryFor 63 = .ok (.iadd, 1) := by decide +kernel
theorem dX6_entryFor_64 : decode cX6_entryFor 64 = .ok (.imul, 1) := by decide +kernel
theorem dX6_entryFor_65 : decode cX6_entryFor 65 = .ok (.iload_n 3, 1) := by decide +kernel
theorem dX6_entryFor_66 : decode cX6_entryFor 66 = .ok (.iadd, 1) := by decide +kernel
theorem dX6_entryFor_67 : decode cX6_entryFor 67 = .ok (.ireturn, 1) := by decide +kernel
theorem dX6_has_0 : decode cX6_has 0 = .ok (.aload_n 0, 1) := by decide +kernel
theorem dX6_has_1 : decode cX6_has 1 = .ok (.iload_n 1, 1) := by decide +kernel
theorem dX6_has_2 : decode cX6_has 2 = .ok (.iload_n 2, 1) := by decide +kernel
theorem dX6_has_3 : decode cX6_has 3 = .ok (.iload_n 3, 1) := by decide +kernel
theorem dX6_has_4 : decode cX6_has 4 = .ok (.invokevirtual 107, 3) := by decide +kernel
theorem dX6_has_7 : decode cX6_has 7 = .ok (.istore 4, 2) := by decide +kernel
theorem dX6_has_9 : decode cX6_has 9 = .ok (.iload 4, 2) := by decide +kernel
theorem dX6_has_11 : decode cX6_has 11 = .ok (.iconst (-1), 1) := by decide +kernel
theorem dX6_has_12 : decode cX6_has 12 = .ok (.if_icmp .eq 14, 3) := by decide +kernel
theorem dX6_has_15 : decode cX6_has 15 = .ok (.aload_n 0, 1) := by decide +kernel
theorem dX6_has_16 : decode cX6_has 16 = .ok (.getfield 23, 3) := by decide +kernel
theorem dX6_has_19 : decode cX6_has 19 = .ok (.iload 4, 2) := by decide +kernel
theorem dX6_has_21 : decode cX6_has 21 = .ok (.iaload, 1) := by decide +kernel
theorem dX6_has_22 : decode cX6_has 22 = .ok (.iconst 3, 1) := by decide +kernel
theorem dX6_has_23 : decode cX6_has 23 = .ok (.if_icmp .ne 7, 3) := by decide +kernel
theorem dX6_has_26 : decode cX6_has 26 = .ok (.iconst (-1), 1) := by decide +kernel
theorem dX6_has_27 : decode cX6_has 27 = .ok (.goto 5, 3) := by decide +kernel
theorem dX6_has_30 : decode cX6_has 30 = .ok (.iload 4, 2) := by decide +kernel
theorem dX6_has_32 : decode cX6_has 32 = .ok (.ireturn, 1) := by decide +kernel
theorem dX6_costOf_0 : decode cX6_costOf 0 = .ok (.aload_n 0, 1) := by decide +kernel
theorem dX6_costOf_1 : decode cX6_costOf 1 = .ok (.getfield 23, 3) := by decide +kernel
theorem dX6_costOf_4 : decode cX6_costOf 4 = .ok (.iload_n 1, 1) := by decide +kernel
theorem dX6_costOf_5 : decode cX6_costOf 5 = .ok (.iaload, 1) := by decide +kernel
theorem dX6_costOf_6 : decode cX6_costOf 6 = .ok (.istore_n 2, 1) := by decide +kernel
theorem dX6_costOf_7 : decode cX6_costOf 7 = .ok (.iload_n 2, 1) := by decide +kernel
theorem dX6_costOf_8 : decode cX6_costOf 8 = .ok (.iconst 4, 1) := by decide +kernel
theorem dX6_costOf_9 : decode cX6_costOf 9 = .ok (.if_icmp .ne 7, 3) := by decide +kernel
theorem dX6_costOf_12 : decode cX6_costOf 12 = .ok (.iconst 0, 1) := by decide +kernel
theorem dX6_costOf_13 : decode cX6_costOf 13 = .ok (.goto 29, 3) := by decide +kernel
theorem dX6_costOf_16 : decode cX6_costOf 16 = .ok (.iload_n 2, 1) := by decide +kernel
theorem dX6_costOf_17 : decode cX6_costOf 17 = .ok (.ifCond .ne 7, 3) := by decide +kernel
theorem dX6_costOf_20 : decode cX6_costOf 20 = .ok (.iconst 2, 1) := by decide +kernel
theorem dX6_costOf_21 : decode cX6_costOf 21 = .ok (.goto 21, 3) := by decide +kernel
theorem dX6_costOf_24 : decode cX6_costOf 24 = .ok (.iload_n 2, 1) := by decide +kernel
theorem dX6_costOf_25 : decode cX6_costOf 25 = .ok (.iconst 2, 1) := by decide +kernel
theorem dX6_costOf_26 : decode cX6_costOf 26 = .ok (.if_icmp .ne 15, 3) := by decide +kernel
theorem dX6_costOf_29 : decode cX6_costOf 29 = .ok (.aload_n 0, 1) := by decide +kernel
theorem dX6_costOf_30 : decode cX6_costOf 30 = .ok (.getfield 29, 3) := by decide +kernel
theorem dX6_costOf_33 : decode cX6_costOf 33 = .ok (.iload_n 1, 1) := by decide +kernel
theorem dX6_costOf_34 : decode cX6_costOf 34 = .ok (.iaload, 1) := by decide +kernel
theorem dX6_costOf_35 : decode cX6_costOf 35 = .ok (.invokestatic 103, 3) := by decide +kernel
theorem dX6_costOf_38 : decode cX6_costOf 38 = .ok (.goto 4, 3) := by decide +kernel
theorem dX6_costOf_41 : decode cX6_costOf 41 = .ok (.iconst 1, 1) := by decide +kernel
theorem dX6_costOf_42 : decode cX6_costOf 42 = .ok (.ireturn, 1) := by decide +kernel
theorem dX6_usedBy_0 : decode cX6_usedBy 0 = .ok (.iconst 0, 1) := by decide +kernel
theorem dX6_usedBy_1 : decode cX6_usedBy 1 = .ok (.istore_n 2, 1) := by decide +kernel
theorem dX6_usedBy_2 : decode cX6_usedBy 2 = .ok (.iconst 0, 1) := by decide +kernel
theorem dX6_usedBy_3 : decode cX6_usedBy 3 = .ok (.istore_n 3, 1) := by decide +kernel
theorem dX6_usedBy_4 : decode cX6_usedBy 4 = .ok (.iload_n 3, 1) := by decide +kernel
theorem dX6_usedBy_5 : decode cX6_usedBy 5 = .ok (.sipush 320, 3) := by decide +kernel
theorem dX6_usedBy_8 : decode cX6_usedBy 8 = .ok (.if_icmp .ge 44, 3) := by decide +kernel
theorem dX6_usedBy_11 : decode cX6_usedBy 11 = .ok (.iload_n 2, 1) := by decide +kernel
theorem dX6_usedBy_12 : decode cX6_usedBy 12 = .ok (.aload_n 0, 1) := by decide +kernel
theorem dX6_usedBy_13 : decode cX6_usedBy 13 = .ok (.getfield 7, 3) := by decide +kernel
theorem dX6_usedBy_16 : decode cX6_usedBy 16 = .ok (.iload_n 3, 1) := by decide +kernel
theorem dX6_usedBy_17 : decode cX6_usedBy 17 = .ok (.iconst 5, 1) := by decide +kernel
theorem dX6_usedBy_18 : decode cX6_usedBy 18 = .ok (.idiv, 1) := by decide +kernel
theorem dX6_usedBy_19 : decode cX6_usedBy 19 = .ok (.baload, 1) := by decide +kernel
theorem dX6_usedBy_20 : decode cX6_usedBy 20 = .ok (.ifCond .eq 23, 3) := by decide +kernel
theorem dX6_usedBy_23 : decode cX6_usedBy 23 = .ok (.aload_n 0, 1) := by decide +kernel
theorem dX6_usedBy_24 : decode cX6_usedBy 24 = .ok (.getfield 17, 3) := by decide +kernel
theorem dX6_usedBy_27 : decode cX6_usedBy 27 = .ok (.iload_n 3, 1) := by decide +kernel
theorem dX6_usedBy_28 : decode cX6_usedBy 28 = .ok (.iconst 5, 1) := by decide +kernel
theorem dX6_usedBy_29 : decode cX6_usedBy 29 = .ok (.idiv, 1) := by decide +kernel
theorem dX6_usedBy_30 : decode cX6_usedBy 30 = .ok (.iaload, 1) := by decide +kernel
theorem dX6_usedBy_31 : decode cX6_usedBy 31 = .ok (.iload_n 1, 1) := by decide +kernel
theorem dX6_usedBy_32 : decode cX6_usedBy 32 = .ok (.if_icmp .ne 11, 3) := by decide +kernel
theorem dX6_usedBy_35 : decode cX6_usedBy 35 = .ok (.aload_n 0, 1) := by decide +kernel
theorem dX6_usedBy_36 : decode cX6_usedBy 36 = .ok (.iload_n 3, 1) := by decide +kernel
theorem dX6_usedBy_37 : decode cX6_usedBy 37 = .ok (.invokevirtual 111, 3) := by decide +kernel
theorem dX6_usedBy_40 : decode cX6_usedBy 40 = .ok (.goto 4, 3) := by decide +kernel
theorem dX6_usedBy_43 : decode cX6_usedBy 43 = .ok (.iconst 0, 1) := by decide +kernel
theorem dX6_usedBy_44 : decode cX6_usedBy 44 = .ok (.iadd, 1) := by decide +kernel
theorem dX6_usedBy_45 : decode cX6_usedBy 45 = .ok (.istore_n 2, 1) := by decide +kernel
theorem dX6_usedBy_46 : decode cX6_usedBy 46 = .ok (.iinc 3 1, 3) := by decide +kernel
theorem dX6_usedBy_49 : decode cX6_usedBy 49 = .ok (.goto (-45), 3) := by decide +kernel
theorem dX6_usedBy_52 : decode cX6_usedBy 52 = .ok (.iconst 0, 1) := by decide +kernel
theorem dX6_usedBy_53 : decode cX6_usedBy 53 = .ok (.istore_n 3, 1) := by decide +kernel
theorem dX6_usedBy_54 : decode cX6_usedBy 54 = .ok (.iload_n 3, 1) := by decide +kernel
theorem dX6_usedBy_55 : decode cX6_usedBy 55 = .ok (.bipush 48, 2) := by decide +kernel
theorem dX6_usedBy_57 : decode cX6_usedBy 57 = .ok (.if_icmp .ge 31, 3) := by decide +kernel
theorem dX6_usedBy_60 : decode cX6_usedBy 60 = .ok (.iload_n 2, 1) := by decide +kernel
theorem dX6_usedBy_61 : decode cX6_usedBy 61 = .ok (.iload_n 3, 1) := by decide +kernel
theorem dX6_usedBy_62 : decode cX6_usedBy 62 = .ok (.bipush 12, 2) := by decide +kernel
theorem dX6_usedBy_64 : decode cX6_usedBy 64 = .ok (.irem, 1) := by decide +kernel
theorem dX6_usedBy_65 : decode cX6_usedBy 65 = .ok (.iconst 3, 1) := by decide +kernel
theorem dX6_usedBy_66 : decode cX6_usedBy 66 = .ok (.idiv, 1) := by decide +kernel
theorem dX6_usedBy_67 : decode cX6_usedBy 67 = .ok (.iload_n 1, 1) := by decide +kernel
theorem dX6_usedBy_68 : decode cX6_usedBy 68 = .ok (.if_icmp .ne 11, 3) := by decide +kernel
theorem dX6_usedBy_71 : decode cX6_usedBy 71 = .ok (.aload_n 0, 1) := by decide +kernel
theorem dX6_usedBy_72 : decode cX6_usedBy 72 = .ok (.iload_n 3, 1) := by decide +kernel
theorem dX6_usedBy_73 : decode cX6_usedBy 73 = .ok (.invokevirtual 114, 3) := by decide +kernel
theorem dX6_usedBy_76 : decode cX6_usedBy 76 = .ok (.goto 4, 3) := by decide +kernel
theorem dX6_usedBy_79 : decode cX6_usedBy 79 = .ok (.iconst 0, 1) := by decide +kernel
theorem dX6_usedBy_80 : decode cX6_usedBy 80 = .ok (.iadd, 1) := by decide +kernel
theorem dX6_usedBy_81 : decode cX6_usedBy 81 = .ok (.istore_n 2, 1) := by decide +kernel
theorem dX6_usedBy_82 : decode cX6_usedBy 82 = .ok (.iinc 3 1, 3) := by decide +kernel
theorem dX6_usedBy_85 : decode cX6_usedBy 85 = .ok (.goto (-31), 3) := by decide +kernel
theorem dX6_usedBy_88 : decode cX6_usedBy 88 = .ok (.iload_n 2, 1) := by decide +kernel
theorem dX6_usedBy_89 : decode cX6_usedBy 89 = .ok (.ireturn, 1) := by decide +kernel
theorem dX6_fits_0 : decode cX6_fits 0 = .ok (.iload_n 2, 1) := by decide +kernel
theorem dX6_fits_1 : decode cX6_fits 1 = .ok (.ifCond .le 19, 3) := by decide +kernel
theorem dX6_fits_4 : decode cX6_fits 4 = .ok (.aload_n 0, 1) := by decide +kernel
theorem dX6_fits_5 : decode cX6_fits 5 = .ok (.iload_n 1, 1) := by decide +kernel
theorem dX6_fits_6 : decode cX6_fits 6 = .ok (.invokevirtual 117, 3) := by decide +kernel
theorem dX6_fits_9 : decode cX6_fits 9 = .ok (.iload_n 2, 1) := by decide +kernel
theorem dX6_fits_10 : decode cX6_fits 10 = .ok (.iadd, 1) := by decide +kernel
theorem dX6_fits_11 : decode cX6_fits 11 = .ok (.aload_n 0, 1) := by decide +kernel
theorem dX6_fits_12 : decode cX6_fits 12 = .ok (.getfield 41, 3) := by decide +kernel
theorem dX6_fits_15 : decode cX6_fits 15 = .ok (.iload_n 1, 1) := by decide +kernel
theorem dX6_fits_16 : decode cX6_fits 16 = .ok (.iaload, 1) := by decide +kernel
theorem dX6_fits_17 : decode cX6_fits 17 = .ok (.if_icmp .gt 7, 3) := by decide +kernel
theorem dX6_fits_20 : decode cX6_fits 20 = .ok (.iconst 1, 1) := by decide +kernel
theorem dX6_fits_21 : decode cX6_fits 21 = .ok (.goto 4, 3) := by decide +kernel
theorem dX6_fits_24 : decode cX6_fits 24 = .ok (.iconst 0, 1) := by decide +kernel
theorem dX6_fits_25 : decode cX6_fits 25 = .ok (.ireturn, 1) := by decide +kernel
theorem dX6_addSheet_0 : decode cX6_addSheet 0 = .ok (.aload_n 0, 1) := by decide +kernel
theorem dX6_addSheet_1 : decode cX6_addSheet 1 = .ok (.aload_n 0, 1) := by decide +kernel
theorem dX6_addSheet_2 : decode cX6_addSheet 2 = .ok (.getfield 91, 3) := by decide +kernel
theorem dX6_addSheet_5 : decode cX6_addSheet 5 = .ok (.iconst 4, 1) := by decide +kernel
theorem dX6_addSheet_6 : decode cX6_addSheet 6 = .ok (.if_icmp .ne 7, 3) := by decide +kernel
theorem dX6_addSheet_9 : decode cX6_addSheet 9 = .ok (.iconst 1, 1) := by decide +kernel
theorem dX6_addSheet_10 : decode cX6_addSheet 10 = .ok (.goto 4, 3) := by decide +kernel
theorem dX6_addSheet_13 : decode cX6_addSheet 13 = .ok (.iconst 0, 1) := by decide +kernel
theorem dX6_addSheet_14 : decode cX6_addSheet 14 = .ok (.invokevirtual 120, 3) := by decide +kernel
theorem dX6_addSheet_17 : decode cX6_addSheet 17 = .ok (.ifCond .eq 5, 3) := by decide +kernel
theorem dX6_addSheet_20 : decode cX6_addSheet 20 = .ok (.iconst 0, 1) := by decide +kernel
theorem dX6_addSheet_21 : decode cX6_addSheet 21 = .ok (.ireturn, 1) := by decide +kernel
theorem dX6_addSheet_22 : decode cX6_addSheet 22 = .ok (.aload_n 0, 1) := by decide +kernel
theorem dX6_addSheet_23 : decode cX6_addSheet 23 = .ok (.getfield 7, 3) := by decide +kernel
theorem dX6_addSheet_26 : decode cX6_addSheet 26 = .ok (.bipush 16, 2) := by decide +kernel
theorem dX6_addSheet_28 : decode cX6_addSheet 28 = .ok (.aload_n 0, 1) := by decide +kernel
theorem dX6_addSheet_29 : decode cX6_addSheet 29 = .ok (.getfield 91, 3) := by decide +kernel
theorem dX6_addSheet_32 : decode cX6_addSheet 32 = .ok (.imul, 1) := by decide +kernel
theorem dX6_addSheet_33 : decode cX6_addSheet 33 = .ok (.iconst 1, 1) := by decide +kernel
theorem dX6_addSheet_34 : decode cX6_addSheet 34 = .ok (.bastore, 1) := by decide +kernel
theorem dX6_addSheet_35 : decode cX6_addSheet 35 = .ok (.aload_n 0, 1) := by decide +kernel
theorem dX6_addSheet_36 : decode cX6_addSheet 36 = .ok (.getfield 13, 3) := by decide +kernel
theorem dX6_addSheet_39 : decode cX6_addSheet 39 = .ok (.bipush 16, 2) := by decide +kernel
theorem dX6_addSheet_41 : decode cX6_addSheet 41 = .ok (.aload_n 0, 1) := by decide +kernel
theorem dX6_addSheet_42 : decode cX6_addSheet 42 = .ok (.getfield 91, 3) := by decide +kernel
theorem dX6_addSheet_45 : decode cX6_addSheet 45 = .ok (.imul, 1) := by decide +kernel
theorem dX6_addSheet_46 : decode cX6_addSheet 46 = .ok (.iconst (-1), 1) := by decide +kernel
theorem dX6_addSheet_47 : decode cX6_addSheet 47 = .ok (.iastore, 1) := by decide +kernel
theorem dX6_addSheet_48 : decode cX6_addSheet 48 = .ok (.aload_n 0, 1) := by decide +kernel
theorem dX6_addSheet_49 : decode cX6_addSheet 49 = .ok (.getfield 17, 3) := by decide +kernel
theorem dX6_addSheet_52 : decode cX6_addSheet 52 = .ok (.bipush 16, 2) := by decide +kernel
theorem dX6_addSheet_54 : decode cX6_addSheet 54 = .ok (.aload_n 0, 1) := by decide +kernel
theorem dX6_addSheet_55 : decode cX6_addSheet 55 = .ok (.getfield 91, 3) := by decide +kernel
theorem dX6_addSheet_58 : decode cX6_addSheet 58 = .ok (.imul, 1) := by decide +kernel
theorem dX6_addSheet_59 : decode cX6_addSheet 59 = .ok (.iconst (-1), 1) := by decide +kernel
theorem dX6_addSheet_60 : decode cX6_addSheet 60 = .ok (.iastore, 1) := by decide +kernel
theorem dX6_addSheet_61 : decode cX6_addSheet 61 = .ok (.aload_n 0, 1) := by decide +kernel
theorem dX6_addSheet_62 : decode cX6_addSheet 62 = .ok (.getfield 20, 3) := by decide +kernel
theorem dX6_addSheet_65 : decode cX6_addSheet 65 = .ok (.aload_n 0, 1) := by decide +kernel
theorem dX6_addSheet_66 : decode cX6_addSheet 66 = .ok (.getfield 91, 3) := by decide +kernel
theorem dX6_addSheet_69 : decode cX6_addSheet 69 = .ok (.iconst 1, 1) := by decide +kernel
theorem dX6_addSheet_70 : decode cX6_addSheet 70 = .ok (.iastore, 1) := by decide +kernel
theorem dX6_addSheet_71 : decode cX6_addSheet 71 = .ok (.aload_n 0, 1) := by decide +kernel
theorem dX6_addSheet_72 : decode cX6_addSheet 72 = .ok (.dup, 1) := by decide +kernel
theorem dX6_addSheet_73 : decode cX6_addSheet 73 = .ok (.getfield 91, 3) := by decide +kernel
theorem dX6_addSheet_76 : decode cX6_addSheet 76 = .ok (.iconst 1, 1) := by decide +kernel
theorem dX6_addSheet_77 : decode cX6_addSheet 77 = .ok (.iadd, 1) := by decide +kernel
theorem dX6_addSheet_78 : decode cX6_addSheet 78 = .ok (.putfield 91, 3) := by decide +kernel
theorem dX6_addSheet_81 : decode cX6_addSheet 81 = .ok (.aload_n 0, 1) := by decide +kernel
theorem dX6_addSheet_82 : decode cX6_addSheet 82 = .ok (.getfield 91, 3) := by decide +kernel
theorem dX6_addSheet_85 : decode cX6_addSheet 85 = .ok (.iconst 1, 1) := by decide +kernel
theorem dX6_addSheet_86 : decode cX6_addSheet 86 = .ok (.isub, 1) := by decide +kernel
theorem dX6_addSheet_87 : decode cX6_addSheet 87 = .ok (.ireturn, 1) := by decide +kernel
theorem dX6_canRevise_0 : decode cX6_canRevise 0 = .ok (.aload_n 0, 1) := by decide +kernel
theorem dX6_canRevise_1 : decode cX6_canRevise 1 = .ok (.getfield 20, 3) := by decide +kernel
theorem dX6_canRevise_4 : decode cX6_canRevise 4 = .ok (.iload_n 2, 1) := by decide +kernel
theorem dX6_canRevise_5 : decode cX6_canRevise 5 = .ok (.iaload, 1) := by decide +kernel
theorem dX6_canRevise_6 : decode cX6_canRevise 6 = .ok (.bipush 16, 2) := by decide +kernel
theorem dX6_canRevise_8 : decode cX6_canRevise 8 = .ok (.if_icmp .ge 16, 3) := by decide +kernel
theorem dX6_canRevise_11 : decode cX6_canRevise 11 = .ok (.aload_n 0, 1) := by decide +kernel
theorem dX6_canRevise_12 : decode cX6_canRevise 12 = .ok (.iload_n 1, 1) := by decide +kernel
theorem dX6_canRevise_13 : decode cX6_canRevise 13 = .ok (.iload_n 3, 1) := by decide +kernel
theorem dX6_canRevise_14 : decode cX6_canRevise 14 = .ok (.invokevirtual 123, 3) := by decide +kernel
theorem dX6_canRevise_17 : decode cX6_canRevise 17 = .ok (.ifCond .eq 7, 3) := by decide +kernel
theorem dX6_canRevise_20 : decode cX6_canRevise 20 = .ok (.iconst 1, 1) := by decide +kernel
theorem dX6_canRevise_21 : decode cX6_canRevise 21 = .ok (.goto 4, 3) := by decide +kernel
theorem dX6_canRevise_24 : decode cX6_canRevise 24 = .ok (.iconst 0, 1) := by decide +kernel
theorem dX6_canRevise_25 : decode cX6_canRevise 25 = .ok (.ireturn, 1) := by decide +kernel
theorem dX6_revise_0 : decode cX6_revise 0 = .ok (.aload_n 0, 1) := by decide +kernel
theorem dX6_revise_1 : decode cX6_revise 1 = .ok (.getfield 20, 3) := by decide +kernel
theorem dX6_revise_4 : decode cX6_revise 4 = .ok (.iload_n 2, 1) := by decide +kernel
theorem dX6_revise_5 : decode cX6_revise 5 = .ok (.iaload, 1) := by decide +kernel
theorem dX6_revise_6 : decode cX6_revise 6 = .ok (.istore 8, 2) := by decide +kernel
theorem dX6_revise_8 : decode cX6_revise 8 = .ok (.bipush 16, 2) := by decide +kernel
theorem dX6_revise_10 : decode cX6_revise 10 = .ok (.iload_n 2, 1) := by decide +kernel
theorem dX6_revise_11 : decode cX6_revise 11 = .ok (.imul, 1) := by decide +kernel
theorem dX6_revise_12 : decode cX6_revise 12 = .ok (.iload 8, 2) := by decide +kernel
theorem dX6_revise_14 : decode cX6_revise 14 = .ok (.iadd, 1) := by decide +kernel
theorem dX6_revise_15 : decode cX6_revise 15 = .ok (.istore 9, 2) := by decide +kernel
theorem dX6_revise_17 : decode cX6_revise 17 = .ok (.aload_n 0, 1) := by decide +kernel
theorem dX6_revise_18 : decode cX6_revise 18 = .ok (.getfield 7, 3) := by decide +kernel
theorem dX6_revise_21 : decode cX6_revise 21 = .ok (.iload 9, 2) := by decide +kernel
theorem dX6_revise_23 : decode cX6_revise 23 = .ok (.iconst 1, 1) := by decide +kernel
theorem dX6_revise_24 : decode cX6_revise 24 = .ok (.bastore, 1) := by decide +kernel
theorem dX6_revise_25 : decode cX6_revise 25 = .ok (.aload_n 0, 1) := by decide +kernel
theorem dX6_revise_26 : decode cX6_revise 26 = .ok (.getfield 13, 3) := by decide +kernel
theorem dX6_revise_29 : decode cX6_revise 29 = .ok (.iload 9, 2) := by decide +kernel
theorem dX6_revise_31 : decode cX6_revise 31 = .ok (.aload_n 0, 1) := by decide +kernel
theorem dX6_revise_32 : decode cX6_revise 32 = .ok (.getfield 35, 3) := by decide +kernel
theorem dX6_revise_35 : decode cX6_revise 35 = .ok (.iconst 4, 1) := by decide +kernel
theorem dX6_revise_36 : decode cX6_revise 36 = .ok (.iload_n 2, 1) := by decide +kernel
theorem dX6_revise_37 : decode cX6_revise 37 = .ok (.imul, 1) := by decide +kernel
theorem dX6_revise_38 : decode cX6_revise 38 = .ok (.iload_n 1, 1) := by decide +kernel
theorem dX6_revise_39 : decode cX6_revise 39 = .ok (.iadd, 1) := by decide +kernel
theorem dX6_revise_40 : decode cX6_revise 40 = .ok (.iaload, 1) := by decide +kernel
theorem dX6_revise_41 : decode cX6_revise 41 = .ok (.iastore, 1) := by decide +kernel
theorem dX6_revise_42 : decode cX6_revise 42 = .ok (.aload_n 0, 1) := by decide +kernel
theorem dX6_revise_43 : decode cX6_revise 43 = .ok (.getfield 17, 3) := by decide +kernel
theorem dX6_revise_46 : decode cX6_revise 46 = .ok (.iload 9, 2) := by decide +kernel
theorem dX6_revise_48 : decode cX6_revise 48 = .ok (.iload_n 1, 1) := by decide +kernel
theorem dX6_revise_49 : decode cX6_revise 49 = .ok (.iastore, 1) := by decide +kernel
theorem dX6_revise_50 : decode cX6_revise 50 = .ok (.aload_n 0, 1) := by decide +kernel
theorem dX6_revise_51 : decode cX6_revise 51 = .ok (.getfield 20, 3) := by decide +kernel
theorem dX6_revise_54 : decode cX6_revise 54 = .ok (.iload_n 2, 1) := by decide +kernel
theorem dX6_revise_55 : decode cX6_revise 55 = .ok (.dup2, 1) := by decide +kernel
theorem dX6_revise_56 : decode cX6_revise 56 = .ok (.iaload, 1) := by decide +kernel
theorem dX6_revise_57 : decode cX6_revise 57 = .ok (.iconst 1, 1) := by decide +kernel
theorem dX6_revise_58 : decode cX6_revise 58 = .ok (.iadd, 1) := by decide +kernel
theorem dX6_revise_59 : decode cX6_revise 59 = .ok (.iastore, 1) := by decide +kernel
theorem dX6_revise_60 : decode cX6_revise 60 = .ok (.aload_n 0, 1) := by decide +kernel
theorem dX6_revise_61 : decode cX6_revise 61 = .ok (.getfield 35, 3) := by decide +kernel
theorem dX6_revise_64 : decode cX6_revise 64 = .ok (.iconst 4, 1) := by decide +kernel
theorem dX6_revise_65 : decode cX6_revise 65 = .ok (.iload_n 2, 1) := by decide +kernel
theorem dX6_revise_66 : decode cX6_revise 66 = .ok (.imul, 1) := by decide +kernel
theorem dX6_revise_67 : decode cX6_revise 67 = .ok (.iload_n 1, 1) := by decide +kernel
theorem dX6_revise_68 : decode cX6_revise 68 = .ok (.iadd, 1) := by decide +kernel
theorem dX6_revise_69 : decode cX6_revise 69 = .ok (.iload 8, 2) := by decide +kernel
theorem dX6_revise_71 : decode cX6_revise 71 = .ok (.iastore, 1) := by decide +kernel
theorem dX6_revise_72 : decode cX6_revise 72 = .ok (.iconst 5, 1) := by decide +kernel
theorem dX6_revise_73 : decode cX6_revise 73 = .ok (.iload 9, 2) := by decide +kernel
theorem dX6_revise_75 : decode cX6_revise 75 = .ok (.imul, 1) := by decide +kernel
theorem dX6_revise_76 : decode cX6_revise 76 = .ok (.iload_n 3, 1) := by decide +kernel
theorem dX6_revise_77 : decode cX6_revise 77 = .ok (.iadd, 1) := by decide +kernel
theorem dX6_revise_78 : decode cX6_revise 78 = .ok (.istore 10, 2) := by decide +kernel
theorem dX6_revise_80 : decode cX6_revise 80 = .ok (.aload_n 0, 1) := by decide +kernel
theorem dX6_revise_81 : decode cX6_revise 81 = .ok (.getfield 23, 3) := by decide +kernel
theorem dX6_revise_84 : decode cX6_revise 84 = .ok (.iload 10, 2) := by decide +kernel
theorem dX6_revise_86 : decode cX6_revise 86 = .ok (.iload 4, 2) := by decide +kernel
theorem dX6_revise_88 : decode cX6_revise 88 = .ok (.iastore, 1) := by decide +kernel
theorem dX6_revise_89 : decode cX6_revise 89 = .ok (.aload_n 0, 1) := by decide +kernel
theorem dX6_revise_90 : decode cX6_revise 90 = .ok (.getfield 26, 3) := by decide +kernel
theorem dX6_revise_93 : decode cX6_revise 93 = .ok (.iload 10, 2) := by decide +kernel
theorem dX6_revise_95 : decode cX6_revise 95 = .ok (.iload 5, 2) := by decide +kernel
theorem dX6_revise_97 : decode cX6_revise 97 = .ok (.iastore, 1) := by decide +kernel
theorem dX6_revise_98 : decode cX6_revise 98 = .ok (.aload_n 0, 1) := by decide +kernel
theorem dX6_revise_99 : decode cX6_revise 99 = .ok (.getfield 29, 3) := by decide +kernel
theorem dX6_revise_102 : decode cX6_revise 102 = .ok (.iload 10, 2) := by decide +kernel
theorem dX6_revise_104 : decode cX6_revise 104 = .ok (.iload 6, 2) := by decide +kernel
theorem dX6_revise_106 : decode cX6_revise 106 = .ok (.iastore, 1) := by decide +kernel
theorem dX6_revise_107 : decode cX6_revise 107 = .ok (.aload_n 0, 1) := by decide +kernel
theorem dX6_revise_108 : decode cX6_revise 108 = .ok (.getfield 32, 3) := by decide +kernel
theorem dX6_revise_111 : decode cX6_revise 111 = .ok (.iload 10, 2) := by decide +kernel
theorem dX6_revise_113 : decode cX6_revise 113 = .ok (.iload 7, 2) := by decide +kernel
theorem dX6_revise_115 : decode cX6_revise 115 = .ok (.iastore, 1) := by decide +kernel
theorem dX6_revise_116 : decode cX6_revise 116 = .ok (.iload 8, 2) := by decide +kernel
theorem dX6_revise_118 : decode cX6_revise 118 = .ok (.ireturn, 1) := by decide +kernel
theorem dX6_canName_0 : decode cX6_canName 0 = .ok (.iload_n 1, 1) := by decide +kernel
theorem dX6_canName_1 : decode cX6_canName 1 = .ok (.invokestatic 127, 3) := by decide +kernel
theorem dX6_canName_4 : decode cX6_canName 4 = .ok (.ifCond .eq 22, 3) := by decide +kernel
theorem dX6_canName_7 : decode cX6_canName 7 = .ok (.aload_n 0, 1) := by decide +kernel
theorem dX6_canName_8 : decode cX6_canName 8 = .ok (.iload_n 2, 1) := by decide +kernel
theorem dX6_canName_9 : decode cX6_canName 9 = .ok (.invokevirtual 94, 3) := by decide +kernel
theorem dX6_canName_12 : decode cX6_canName 12 = .ok (.ifCond .eq 14, 3) := by decide +kernel
theorem dX6_canName_15 : decode cX6_canName 15 = .ok (.iload_n 3, 1) := by decide +kernel
theorem dX6_canName_16 : decode cX6_canName 16 = .ok (.invokestatic 130, 3) := by decide +kernel
theorem dX6_canName_19 : decode cX6_canName 19 = .ok (.ifCond .eq 7, 3) := by decide +kernel
theorem dX6_canName_22 : decode cX6_canName 22 = .ok (.iconst 1, 1) := by decide +kernel
theorem dX6_canName_23 : decode cX6_canName 23 = .ok (.goto 4, 3) := by decide +kernel
theorem dX6_canName_26 : decode cX6_canName 26 = .ok (.iconst 0, 1) := by decide +kernel
theorem dX6_canName_27 : decode cX6_canName 27 = .ok (.ireturn, 1) := by decide +kernel
theorem dX6_setNumber_0 : decode cX6_setNumber 0 = .ok (.iload 4, 2) := by decide +kernel
theorem dX6_setNumber_2 : decode cX6_setNumber 2 = .ok (.iconst 1, 1) := by decide +kernel
theorem dX6_setNumber_3 : decode cX6_setNumber 3 = .ok (.bipush 10, 2) := by decide +kernel
theorem dX6_setNumber_5 : decode cX6_setNumber 5 = .ok (.invokestatic 87, 3) := by decide +kernel
theorem dX6_setNumber_8 : decode cX6_setNumber 8 = .ok (.ifCond .eq 32, 3) := by decide +kernel
theorem dX6_setNumber_11 : decode cX6_setNumber 11 = .ok (.iload 5, 2) := by decide +kernel
theorem dX6_setNumber_13 : decode cX6_setNumber 13 = .ok (.sipush (-1000), 3) := by decide +kernel
theorem dX6_setNumber_16 : decode cX6_setNumber 16 = .ok (.sipush 1000, 3) := by decide +kernel
theorem dX6_setNumber_19 : decode cX6_setNumber 19 = .ok (.invokestatic 87, 3) := by decide +kernel
theorem dX6_setNumber_22 : decode cX6_setNumber 22 = .ok (.ifCond .eq 18, 3) := by decide +kernel
theorem dX6_setNumber_25 : decode cX6_setNumber 25 = .ok (.iload 6, 2) := by decide +kernel
theorem dX6_setNumber_27 : decode cX6_setNumber 27 = .ok (.iconst 0, 1) := by decide +kernel
theorem dX6_setNumber_28 : decode cX6_setNumber 28 = .ok (.bipush 100, 2) := by decide +kernel
theorem dX6_setNumber_30 : decode cX6_setNumber 30 = .ok (.invokestatic 87, 3) := by decide +kernel
theorem dX6_setNumber_33 : decode cX6_setNumber 33 = .ok (.ifCond .eq 7, 3) := by decide +kernel
theorem dX6_setNumber_36 : decode cX6_setNumber 36 = .ok (.iconst 1, 1) := by decide +kernel
theorem dX6_setNumber_37 : decode cX6_setNumber 37 = .ok (.goto 4, 3) := by decide +kernel
theorem dX6_setNumber_40 : decode cX6_setNumber 40 = .ok (.iconst 0, 1) := by decide +kernel
theorem dX6_setNumber_41 : decode cX6_setNumber 41 = .ok (.istore 7, 2) := by decide +kernel
theorem dX6_setNumber_43 : decode cX6_setNumber 43 = .ok (.aload_n 0, 1) := by decide +kernel
theorem dX6_setNumber_44 : decode cX6_setNumber 44 = .ok (.iload_n 1, 1) := by decide +kernel
theorem dX6_setNumber_45 : decode cX6_setNumber 45 = .ok (.iload_n 2, 1) := by decide +kernel
theorem dX6_setNumber_46 : decode cX6_setNumber 46 = .ok (.iload_n 3, 1) := by decide +kernel
theorem dX6_setNumber_47 : decode cX6_setNumber 47 = .ok (.invokevirtual 133, 3) := by decide +kernel
theorem dX6_setNumber_50 : decode cX6_setNumber 50 = .ok (.ifCond .eq 22, 3) := by decide +kernel
theorem dX6_setNumber_53 : decode cX6_setNumber 53 = .ok (.iload 7, 2) := by decide +kernel
theorem dX6_setNumber_55 : decode cX6_setNumber 55 = .ok (.ifCond .eq 17, 3) := by decide +kernel
theorem dX6_setNumber_58 : decode cX6_setNumber 58 = .ok (.aload_n 0, 1) := by decide +kernel
theorem dX6_setNumber_59 : decode cX6_setNumber 59 = .ok (.iload_n 1, 1) := by decide +kernel
theorem dX6_setNumber_60 : decode cX6_setNumber 60 = .ok (.iload_n 2, 1) := by decide +kernel
theorem dX6_setNumber_61 : decode cX6_setNumber 61 = .ok (.iconst 2, 1) := by decide +kernel
theorem dX6_setNumber_62 : decode cX6_setNumber 62 = .ok (.invokevirtual 136, 3) := by decide +kernel
theorem dX6_setNumber_65 : decode cX6_setNumber 65 = .ok (.ifCond .eq 7, 3) := by decide +kernel
theorem dX6_setNumber_68 : decode cX6_setNumber 68 = .ok (.iconst 1, 1) := by decide +kernel
theorem dX6_setNumber_69 : decode cX6_setNumber 69 = .ok (.goto 4, 3) := by decide +kernel
theorem dX6_setNumber_72 : decode cX6_setNumber 72 = .ok (.iconst 0, 1) := by decide +kernel
theorem dX6_setNumber_73 : decode cX6_setNumber 73 = .ok (.istore 8, 2) := by decide +kernel
theorem dX6_setNumber_75 : decode cX6_setNumber 75 = .ok (.aload_n 0, 1) := by decide +kernel
theorem dX6_setNumber_76 : decode cX6_setNumber 76 = .ok (.aload_n 0, 1) := by decide +kernel
theorem dX6_setNumber_77 : decode cX6_setNumber 77 = .ok (.iload_n 1, 1) := by decide +kernel
theorem dX6_setNumber_78 : decode cX6_setNumber 78 = .ok (.iload_n 2, 1) := by decide +kernel
theorem dX6_setNumber_79 : decode cX6_setNumber 79 = .ok (.iload_n 3, 1) := by decide +kernel
theorem dX6_setNumber_80 : decode cX6_setNumber 80 = .ok (.invokevirtual 133, 3) := by decide +kernel
theorem dX6_setNumber_83 : decode cX6_setNumber 83 = .ok (.ifCond .ne 7, 3) := by decide +kernel
theorem dX6_setNumber_86 : decode cX6_setNumber 86 = .ok (.iconst 1, 1) := by decide +kernel
theorem dX6_setNumber_87 : decode cX6_setNumber 87 = .ok (.goto 22, 3) := by decide +kernel
theorem dX6_setNumber_90 : decode cX6_setNumber 90 = .ok (.iload 7, 2) := by decide +kernel
theorem dX6_setNumber_92 : decode cX6_setNumber 92 = .ok (.ifCond .ne 7, 3) := by decide +kernel
theorem dX6_setNumber_95 : decode cX6_setNumber 95 = .ok (.iconst 2, 1) := by decide +kernel
theorem dX6_setNumber_96 : decode cX6_setNumber 96 = .ok (.goto 13, 3) := by decide +kernel
theorem dX6_setNumber_99 : decode cX6_setNumber 99 = .ok (.iload 8, 2) := by decide +kernel
theorem dX6_setNumber_101 : decode cX6_setNumber 101 = .ok (.ifCond .eq 7, 3) := by decide +kernel
theorem dX6_setNumber_104 : decode cX6_setNumber 104 = .ok (.iconst 0, 1) := by decide +kernel
theorem dX6_setNumber_105 : decode cX6_setNumber 105 = .ok (.goto 4, 3) := by decide +kernel
theorem dX6_setNumber_108 : decode cX6_setNumber 108 = .ok (.iconst 3, 1) := by decide +kernel
theorem dX6_setNumber_109 : decode cX6_setNumber 109 = .ok (.invokevirtual 120, 3) := by decide +kernel
theorem dX6_setNumber_112 : decode cX6_setNumber 112 = .ok (.ifCond .eq 5, 3) := by decide +kernel
theorem dX6_setNumber_115 : decode cX6_setNumber 115 = .ok (.iconst 0, 1) := by decide +kernel
theorem dX6_setNumber_116 : decode cX6_setNumber 116 = .ok (.ireturn, 1) := by decide +kernel
theorem dX6_setNumber_117 : decode cX6_setNumber 117 = .ok (.aload_n 0, 1) := by decide +kernel
theorem dX6_setNumber_118 : decode cX6_setNumber 118 = .ok (.iload_n 1, 1) := by decide +kernel
theorem dX6_setNumber_119 : decode cX6_setNumber 119 = .ok (.iload_n 2, 1) := by decide +kernel
theorem dX6_setNumber_120 : decode cX6_setNumber 120 = .ok (.iload_n 3, 1) := by decide +kernel
theorem dX6_setNumber_121 : decode cX6_setNumber 121 = .ok (.iconst 0, 1) := by decide +kernel
theorem dX6_setNumber_122 : decode cX6_setNumber 122 = .ok (.iload 4, 2) := by decide +kernel
theorem dX6_setNumber_124 : decode cX6_setNumber 124 = .ok (.iload 5, 2) := by decide +kernel
theorem dX6_setNumber_126 : decode cX6_setNumber 126 = .ok (.iload 6, 2) := by decide +kernel
theorem dX6_setNumber_128 : decode cX6_setNumber 128 = .ok (.invokevirtual 139, 3) := by decide +kernel
theorem dX6_setNumber_131 : decode cX6_setNumber 131 = .ok (.ireturn, 1) := by decide +kernel
theorem dX6_setChoice_0 : decode cX6_setChoice 0 = .ok (.iload 4, 2) := by decide +kernel
theorem dX6_setChoice_2 : decode cX6_setChoice 2 = .ok (.iconst 1, 1) := by decide +kernel
theorem dX6_setChoice_3 : decode cX6_setChoice 3 = .ok (.bipush 10, 2) := by decide +kernel
theorem dX6_setChoice_5 : decode cX6_setChoice 5 = .ok (.invokestatic 87, 3) := by decide +kernel
theorem dX6_setChoice_8 : decode cX6_setChoice 8 = .ok (.ifCond .eq 18, 3) := by decide +kernel
theorem dX6_setChoice_11 : decode cX6_setChoice 11 = .ok (.iload 5, 2) := by decide +kernel
theorem dX6_setChoice_13 : decode cX6_setChoice 13 = .ok (.iconst 0, 1) := by decide +kernel
theorem dX6_setChoice_14 : decode cX6_setChoice 14 = .ok (.bipush 31, 2) := by decide +kernel
theorem dX6_setChoice_16 : decode cX6_setChoice 16 = .ok (.invokestatic 87, 3) := by decide +kernel
theorem dX6_setChoice_19 : decode cX6_setChoice 19 = .ok (.ifCond .eq 7, 3) := by decide +kernel
theorem dX6_setChoice_22 : decode cX6_setChoice 22 = .ok (.iconst 1, 1) := by decide +kernel
theorem dX6_setChoice_23 : decode cX6_setChoice 23 = .ok (.goto 4, 3) := by decide +kernel
theorem dX6_setChoice_26 : decode cX6_setChoice 26 = .ok (.iconst 0, 1) := by decide +kernel
theorem dX6_setChoice_27 : decode cX6_setChoice 27 = .ok (.istore 6, 2) := by decide +kernel
theorem dX6_setChoice_29 : decode cX6_setChoice 29 = .ok (.aload_n 0, 1) := by decide +kernel
theorem dX6_setChoice_30 : decode cX6_setChoice 30 = .ok (.iload_n 1, 1) := by decide +kernel
theorem dX6_setChoice_31 : decode cX6_setChoice 31 = .ok (.iload_n 2, 1) := by decide +kernel
theorem dX6_setChoice_32 : decode cX6_setChoice 32 = .ok (.iload_n 3, 1) := by decide +kernel
theorem dX6_setChoice_33 : decode cX6_setChoice 33 = .ok (.invokevirtual 133, 3) := by decide +kernel
theorem dX6_setChoice_36 : decode cX6_setChoice 36 = .ok (.ifCond .eq 22, 3) := by decide +kernel
theorem dX6_setChoice_39 : decode cX6_setChoice 39 = .ok (.iload 6, 2) := by decide +kernel
theorem dX6_setChoice_41 : decode cX6_setChoice 41 = .ok (.ifCond .eq 17, 3) := by decide +kernel
theorem dX6_setChoice_44 : decode cX6_setChoice 44 = .ok (.aload_n 0, 1) := by decide +kernel
theorem dX6_setChoice_45 : decode cX6_setChoice 45 = .ok (.iload_n 1, 1) := by decide +kernel
theorem dX6_setChoice_46 : decode cX6_setChoice 46 = .ok (.iload_n 2, 1) := by decide +kernel
theorem dX6_setChoice_47 : decode cX6_setChoice 47 = .ok (.iconst 1, 1) := by decide +kernel
theorem dX6_setChoice_48 : decode cX6_setChoice 48 = .ok (.invokevirtual 136, 3) := by decide +kernel
theorem dX6_setChoice_51 : decode cX6_setChoice 51 = .ok (.ifCond .eq 7, 3) := by decide +kernel
theorem dX6_setChoice_54 : decode cX6_setChoice 54 = .ok (.iconst 1, 1) := by decide +kernel
theorem dX6_setChoice_55 : decode cX6_setChoice 55 = .ok (.goto 4, 3) := by decide +kernel
theorem dX6_setChoice_58 : decode cX6_setChoice 58 = .ok (.iconst 0, 1) := by decide +kernel
theorem dX6_setChoice_59 : decode cX6_setChoice 59 = .ok (.istore 7, 2) := by decide +kernel
theorem dX6_setChoice_61 : decode cX6_setChoice 61 = .ok (.aload_n 0, 1) := by decide +kernel
theorem dX6_setChoice_62 : decode cX6_setChoice 62 = .ok (.aload_n 0, 1) := by decide +kernel
theorem dX6_setChoice_63 : decode cX6_setChoice 63 = .ok (.iload_n 1, 1) := by decide +kernel
theorem dX6_setChoice_64 : decode cX6_setChoice 64 = .ok (.iload_n 2, 1) := by decide +kernel
theorem dX6_setChoice_65 : decode cX6_setChoice 65 = .ok (.iload_n 3, 1) := by decide +kernel
theorem dX6_setChoice_66 : decode cX6_setChoice 66 = .ok (.invokevirtual 133, 3) := by decide +kernel
theorem dX6_setChoice_69 : decode cX6_setChoice 69 = .ok (.ifCond .ne 7, 3) := by decide +kernel
theorem dX6_setChoice_72 : decode cX6_setChoice 72 = .ok (.iconst 1, 1) := by decide +kernel
theorem dX6_setChoice_73 : decode cX6_setChoice 73 = .ok (.goto 22, 3) := by decide +kernel
theorem dX6_setChoice_76 : decode cX6_setChoice 76 = .ok (.iload 6, 2) := by decide +kernel
theorem dX6_setChoice_78 : decode cX6_setChoice 78 = .ok (.ifCond .ne 7, 3) := by decide +kernel
theorem dX6_setChoice_81 : decode cX6_setChoice 81 = .ok (.iconst 2, 1) := by decide +kernel
theorem dX6_setChoice_82 : decode cX6_setChoice 82 = .ok (.goto 13, 3) := by decide +kernel
theorem dX6_setChoice_85 : decode cX6_setChoice 85 = .ok (.iload 7, 2) := by decide +kernel
theorem dX6_setChoice_87 : decode cX6_setChoice 87 = .ok (.ifCond .eq 7, 3) := by decide +kernel
theorem dX6_setChoice_90 : decode cX6_setChoice 90 = .ok (.iconst 0, 1) := by decide +kernel
theorem dX6_setChoice_91 : decode cX6_setChoice 91 = .ok (.goto 4, 3) := by decide +kernel
theorem dX6_setChoice_94 : decode cX6_setChoice 94 = .ok (.iconst 3, 1) := by decide +kernel
theorem dX6_setChoice_95 : decode cX6_setChoice 95 = .ok (.invokevirtual 120, 3) := by decide +kernel
theorem dX6_setChoice_98 : decode cX6_setChoice 98 = .ok (.ifCond .eq 5, 3) := by decide +kernel
theorem dX6_setChoice_101 : decode cX6_setChoice 101 = .ok (.iconst 0, 1) := by decide +kernel
theorem dX6_setChoice_102 : decode cX6_setChoice 102 = .ok (.ireturn, 1) := by decide +kernel
theorem dX6_setChoice_103 : decode cX6_setChoice 103 = .ok (.aload_n 0, 1) := by decide +kernel
theorem dX6_setChoice_104 : decode cX6_setChoice 104 = .ok (.iload_n 1, 1) := by decide +kernel
theorem dX6_setChoice_105 : decode cX6_setChoice 105 = .ok (.iload_n 2, 1) := by decide +kernel
theorem dX6_setChoice_106 : decode cX6_setChoice 106 = .ok (.iload_n 3, 1) := by decide +kernel
theorem dX6_setChoice_107 : decode cX6_setChoice 107 = .ok (.iconst 1, 1) := by decide +kernel
theorem dX6_setChoice_108 : decode cX6_setChoice 108 = .ok (.iload 4, 2) := by decide +kernel
theorem dX6_setChoice_110 : decode cX6_setChoice 110 = .ok (.iload 5, 2) := by decide +kernel
theorem dX6_setChoice_112 : decode cX6_setChoice 112 = .ok (.iconst 0, 1) := by decide +kernel
theorem dX6_setChoice_113 : decode cX6_setChoice 113 = .ok (.invokevirtual 139, 3) := by decide +kernel
theorem dX6_setChoice_116 : decode cX6_setChoice 116 = .ok (.ireturn, 1) := by decide +kernel
theorem dX6_setWords_0 : decode cX6_setWords 0 = .ok (.iload 4, 2) := by decide +kernel
theorem dX6_setWords_2 : decode cX6_setWords 2 = .ok (.iconst 1, 1) := by decide +kernel
theorem dX6_setWords_3 : decode cX6_setWords 3 = .ok (.bipush 10, 2) := by decide +kernel
theorem dX6_setWords_5 : decode cX6_setWords 5 = .ok (.invokestatic 87, 3) := by decide +kernel
theorem dX6_setWords_8 : decode cX6_setWords 8 = .ok (.ifCond .eq 15, 3) := by decide +kernel
theorem dX6_setWords_11 : decode cX6_setWords 11 = .ok (.iload 5, 2) := by decide +kernel
theorem dX6_setWords_13 : decode cX6_setWords 13 = .ok (.invokestatic 143, 3) := by decide +kernel
theorem dX6_setWords_16 : decode cX6_setWords 16 = .ok (.ifCond .eq 7, 3) := by decide +kernel
theorem dX6_setWords_19 : decode cX6_setWords 19 = .ok (.iconst 1, 1) := by decide +kernel
theorem dX6_setWords_20 : decode cX6_setWords 20 = .ok (.goto 4, 3) := by decide +kernel
theorem dX6_setWords_23 : decode cX6_setWords 23 = .ok (.iconst 0, 1) := by decide +kernel
theorem dX6_setWords_24 : decode cX6_setWords 24 = .ok (.istore 6, 2) := by decide +kernel
theorem dX6_setWords_26 : decode cX6_setWords 26 = .ok (.aload_n 0, 1) := by decide +kernel
theorem dX6_setWords_27 : decode cX6_setWords 27 = .ok (.iload_n 1, 1) := by decide +kernel
theorem dX6_setWords_28 : decode cX6_setWords 28 = .ok (.iload_n 2, 1) := by decide +kernel
theorem dX6_setWords_29 : decode cX6_setWords 29 = .ok (.iload_n 3, 1) := by decide +kernel
theorem dX6_setWords_30 : decode cX6_setWords 30 = .ok (.invokevirtual 133, 3) := by decide +kernel
theorem dX6_setWords_33 : decode cX6_setWords 33 = .ok (.ifCond .eq 26, 3) := by decide +kernel
theorem dX6_setWords_36 : decode cX6_setWords 36 = .ok (.iload 6, 2) := by decide +kernel
theorem dX6_setWords_38 : decode cX6_setWords 38 = .ok (.ifCond .eq 21, 3) := by decide +kernel
theorem dX6_setWords_41 : decode cX6_setWords 41 = .ok (.aload_n 0, 1) := by decide +kernel
theorem dX6_setWords_42 : decode cX6_setWords 42 = .ok (.iload_n 1, 1) := by decide +kernel
theorem dX6_setWords_43 : decode cX6_setWords 43 = .ok (.iload_n 2, 1) := by decide +kernel
theorem dX6_setWords_44 : decode cX6_setWords 44 = .ok (.iload 5, 2) := by decide +kernel
theorem dX6_setWords_46 : decode cX6_setWords 46 = .ok (.invokestatic 103, 3) := by decide +kernel
theorem dX6_setWords_49 : decode cX6_setWords 49 = .ok (.invokevirtual 136, 3) := by decide +kernel
theorem dX6_setWords_52 : decode cX6_setWords 52 = .ok (.ifCond .eq 7, 3) := by decide +kernel
theorem dX6_setWords_55 : decode cX6_setWords 55 = .ok (.iconst 1, 1) := by decide +kernel
theorem dX6_setWords_56 : decode cX6_setWords 56 = .ok (.goto 4, 3) := by decide +kernel
theorem dX6_setWords_59 : decode cX6_setWords 59 = .ok (.iconst 0, 1) := by decide +kernel
theorem dX6_setWords_60 : decode cX6_setWords 60 = .ok (.istore 7, 2) := by decide +kernel
theorem dX6_setWords_62 : decode cX6_setWords 62 = .ok (.aload_n 0, 1) := by decide +kernel
theorem dX6_setWords_63 : decode cX6_setWords 63 = .ok (.aload_n 0, 1) := by decide +kernel
theorem dX6_setWords_64 : decode cX6_setWords 64 = .ok (.iload_n 1, 1) := by decide +kernel
theorem dX6_setWords_65 : decode cX6_setWords 65 = .ok (.iload_n 2, 1) := by decide +kernel
theorem dX6_setWords_66 : decode cX6_setWords 66 = .ok (.iload_n 3, 1) := by decide +kernel
theorem dX6_setWords_67 : decode cX6_setWords 67 = .ok (.invokevirtual 133, 3) := by decide +kernel
theorem dX6_setWords_70 : decode cX6_setWords 70 = .ok (.ifCond .ne 7, 3) := by decide +kernel
theorem dX6_setWords_73 : decode cX6_setWords 73 = .ok (.iconst 1, 1) := by decide +kernel
theorem dX6_setWords_74 : decode cX6_setWords 74 = .ok (.goto 22, 3) := by decide +kernel
theorem dX6_setWords_77 : decode cX6_setWords 77 = .ok (.iload 6, 2) := by decide +kernel
theorem dX6_setWords_79 : decode cX6_setWords 79 = .ok (.ifCond .ne 7, 3) := by decide +kernel
theorem dX6_setWords_82 : decode cX6_setWords 82 = .ok (.iconst 2, 1) := by decide +kernel
theorem dX6_setWords_83 : decode cX6_setWords 83 = .ok (.goto 13, 3) := by decide +kernel
theorem dX6_setWords_86 : decode cX6_setWords 86 = .ok (.iload 7, 2) := by decide +kernel
theorem dX6_setWords_88 : decode cX6_setWords 88 = .ok (.ifCond .eq 7, 3) := by decide +kernel
theorem dX6_setWords_91 : decode cX6_setWords 91 = .ok (.iconst 0, 1) := by decide +kernel
theorem dX6_setWords_92 : decode cX6_setWords 92 = .ok (.goto 4, 3) := by decide +kernel
theorem dX6_setWords_95 : decode cX6_setWords 95 = .ok (.iconst 3, 1) := by decide +kernel
theorem dX6_setWords_96 : decode cX6_setWords 96 = .ok (.invokevirtual 120, 3) := by decide +kernel
theorem dX6_setWords_99 : decode cX6_setWords 99 = .ok (.ifCond .eq 5, 3) := by decide +kernel
theorem dX6_setWords_102 : decode cX6_setWords 102 = .ok (.iconst 0, 1) := by decide +kernel
theorem dX6_setWords_103 : decode cX6_setWords 103 = .ok (.ireturn, 1) := by decide +kernel
theorem dX6_setWords_104 : decode cX6_setWords 104 = .ok (.aload_n 0, 1) := by decide +kernel
theorem dX6_setWords_105 : decode cX6_setWords 105 = .ok (.iload_n 1, 1) := by decide +kernel
theorem dX6_setWords_106 : decode cX6_setWords 106 = .ok (.iload_n 2, 1) := by decide +kernel
theorem dX6_setWords_107 : decode cX6_setWords 107 = .ok (.iload_n 3, 1) := by decide +kernel
theorem dX6_setWords_108 : decode cX6_setWords 108 = .ok (.iconst 2, 1) := by decide +kernel
theorem dX6_setWords_109 : decode cX6_setWords 109 = .ok (.iload 4, 2) := by decide +kernel
theorem dX6_setWords_111 : decode cX6_setWords 111 = .ok (.iload 5, 2) := by decide +kernel
theorem dX6_setWords_113 : decode cX6_setWords 113 = .ok (.iconst 0, 1) := by decide +kernel
theorem dX6_setWords_114 : decode cX6_setWords 114 = .ok (.invokevirtual 139, 3) := by decide +kernel
theorem dX6_setWords_117 : decode cX6_setWords 117 = .ok (.ireturn, 1) := by decide +kernel
theorem dX6_drop_0 : decode cX6_drop 0 = .ok (.aload_n 0, 1) := by decide +kernel
theorem dX6_drop_1 : decode cX6_drop 1 = .ok (.iload_n 1, 1) := by decide +kernel
theorem dX6_drop_2 : decode cX6_drop 2 = .ok (.iload_n 2, 1) := by decide +kernel
theorem dX6_drop_3 : decode cX6_drop 3 = .ok (.iload_n 3, 1) := by decide +kernel
theorem dX6_drop_4 : decode cX6_drop 4 = .ok (.invokevirtual 133, 3) := by decide +kernel
theorem dX6_drop_7 : decode cX6_drop 7 = .ok (.istore 4, 2) := by decide +kernel
theorem dX6_drop_9 : decode cX6_drop 9 = .ok (.iload 4, 2) := by decide +kernel
theorem dX6_drop_11 : decode cX6_drop 11 = .ok (.ifCond .eq 37, 3) := by decide +kernel
theorem dX6_drop_14 : decode cX6_drop 14 = .ok (.aload_n 0, 1) := by decide +kernel
theorem dX6_drop_15 : decode cX6_drop 15 = .ok (.iload_n 2, 1) := by decide +kernel
theorem dX6_drop_16 : decode cX6_drop 16 = .ok (.aload_n 0, 1) := by decide +kernel
theorem dX6_drop_17 : decode cX6_drop 17 = .ok (.getfield 35, 3) := by decide +kernel
theorem dX6_drop_20 : decode cX6_drop 20 = .ok (.iconst 4, 1) := by decide +kernel
theorem dX6_drop_21 : decode cX6_drop 21 = .ok (.iload_n 2, 1) := by decide +kernel
theorem dX6_drop_22 : decode cX6_drop 22 = .ok (.imul, 1) := by decide +kernel
theorem dX6_drop_23 : decode cX6_drop 23 = .ok (.iload_n 1, 1) := by decide +kernel
theorem dX6_drop_24 : decode cX6_drop 24 = .ok (.iadd, 1) := by decide +kernel
theorem dX6_drop_25 : decode cX6_drop 25 = .ok (.iaload, 1) := by decide +kernel
theorem dX6_drop_26 : decode cX6_drop 26 = .ok (.iload_n 3, 1) := by decide +kernel
theorem dX6_drop_27 : decode cX6_drop 27 = .ok (.invokevirtual 146, 3) := by decide +kernel
theorem dX6_drop_30 : decode cX6_drop 30 = .ok (.iconst (-1), 1) := by decide +kernel
theorem dX6_drop_31 : decode cX6_drop 31 = .ok (.if_icmp .eq 17, 3) := by decide +kernel
theorem dX6_drop_34 : decode cX6_drop 34 = .ok (.aload_n 0, 1) := by decide +kernel
theorem dX6_drop_35 : decode cX6_drop 35 = .ok (.iload_n 1, 1) := by decide +kernel
theorem dX6_drop_36 : decode cX6_drop 36 = .ok (.iload_n 2, 1) := by decide +kernel
theorem dX6_drop_37 : decode cX6_drop 37 = .ok (.iconst 1, 1) := by decide +kernel
theorem dX6_drop_38 : decode cX6_drop 38 = .ok (.invokevirtual 136, 3) := by decide +kernel
theorem dX6_drop_41 : decode cX6_drop 41 = .ok (.ifCond .eq 7, 3) := by decide +kernel
theorem dX6_drop_44 : decode cX6_drop 44 = .ok (.iconst 1, 1) := by decide +kernel
theorem dX6_drop_45 : decode cX6_drop 45 = .ok (.goto 4, 3) := by decide +kernel
theorem dX6_drop_48 : decode cX6_drop 48 = .ok (.iconst 0, 1) := by decide +kernel
theorem dX6_drop_49 : decode cX6_drop 49 = .ok (.istore 5, 2) := by decide +kernel
theorem dX6_drop_51 : decode cX6_drop 51 = .ok (.aload_n 0, 1) := by decide +kernel
theorem dX6_drop_52 : decode cX6_drop 52 = .ok (.iload 4, 2) := by decide +kernel
theorem dX6_drop_54 : decode cX6_drop 54 = .ok (.ifCond .ne 7, 3) := by decide +kernel
theorem dX6_drop_57 : decode cX6_drop 57 = .ok (.iconst 1, 1) := by decide +kernel
theorem dX6_drop_58 : decode cX6_drop 58 = .ok (.goto 13, 3) := by decide +kernel
theorem dX6_drop_61 : decode cX6_drop 61 = .ok (.iload 5, 2) := by decide +kernel
theorem dX6_drop_63 : decode cX6_drop 63 = .ok (.ifCond .eq 7, 3) := by decide +kernel
theorem dX6_drop_66 : decode cX6_drop 66 = .ok (.iconst 0, 1) := by decide +kernel
theorem dX6_drop_67 : decode cX6_drop 67 = .ok (.goto 4, 3) := by decide +kernel
theorem dX6_drop_70 : decode cX6_drop 70 = .ok (.iconst 2, 1) := by decide +kernel
theorem dX6_drop_71 : decode cX6_drop 71 = .ok (.invokevirtual 120, 3) := by decide +kernel
theorem dX6_drop_74 : decode cX6_drop 74 = .ok (.ifCond .eq 5, 3) := by decide +kernel
theorem dX6_drop_77 : decode cX6_drop 77 = .ok (.iconst 0, 1) := by decide +kernel
theorem dX6_drop_78 : decode cX6_drop 78 = .ok (.ireturn, 1) := by decide +kernel
theorem dX6_drop_79 : decode cX6_drop 79 = .ok (.aload_n 0, 1) := by decide +kernel
theorem dX6_drop_80 : decode cX6_drop 80 = .ok (.iload_n 1, 1) := by decide +kernel
theorem dX6_drop_81 : decode cX6_drop 81 = .ok (.iload_n 2, 1) := by decide +kernel
theorem dX6_drop_82 : decode cX6_drop 82 = .ok (.iload_n 3, 1) := by decide +kernel
theorem dX6_drop_83 : decode cX6_drop 83 = .ok (.iconst 3, 1) := by decide +kernel
theorem dX6_drop_84 : decode cX6_drop 84 = .ok (.iconst 0, 1) := by decide +kernel
theorem dX6_drop_85 : decode cX6_drop 85 = .ok (.iconst 0, 1) := by decide +kernel
theorem dX6_drop_86 : decode cX6_drop 86 = .ok (.iconst 0, 1) := by decide +kernel
theorem dX6_drop_87 : decode cX6_drop 87 = .ok (.invokevirtual 139, 3) := by decide +kernel
theorem dX6_drop_90 : decode cX6_drop 90 = .ok (.ireturn, 1) := by decide +kernel
theorem dX6_adopt_0 : decode cX6_adopt 0 = .ok (.aload_n 0, 1) := by decide +kernel
theorem dX6_adopt_1 : decode cX6_adopt 1 = .ok (.iload_n 1, 1) := by decide +kernel
theorem dX6_adopt_2 : decode cX6_adopt 2 = .ok (.invokestatic 127, 3) := by decide +kernel
theorem dX6_adopt_5 : decode cX6_adopt 5 = .ok (.ifCond .eq 16, 3) := by decide +kernel
theorem dX6_adopt_8 : decode cX6_adopt 8 = .ok (.aload_n 0, 1) := by decide +kernel
theorem dX6_adopt_9 : decode cX6_adopt 9 = .ok (.iload_n 2, 1) := by decide +kernel
theorem dX6_adopt_10 : decode cX6_adopt 10 = .ok (.iload_n 3, 1) := by decide +kernel
theorem dX6_adopt_11 : decode cX6_adopt 11 = .ok (.invokevirtual 149, 3) := by decide +kernel
theorem dX6_adopt_14 : decode cX6_adopt 14 = .ok (.ifCond .eq 7, 3) := by decide +kernel
theorem dX6_adopt_17 : decode cX6_adopt 17 = .ok (.iconst 0, 1) := by decide +kernel
theorem dX6_adopt_18 : decode cX6_adopt 18 = .ok (.goto 4, 3) := by decide +kernel
theorem dX6_adopt_21 : decode cX6_adopt 21 = .ok (.iconst 1, 1) := by decide +kernel
theorem dX6_adopt_22 : decode cX6_adopt 22 = .ok (.invokevirtual 120, 3) := by decide +kernel
theorem dX6_adopt_25 : decode cX6_adopt 25 = .ok (.ifCond .eq 5, 3) := by decide +kernel
theorem dX6_adopt_28 : decode cX6_adopt 28 = .ok (.iconst 0, 1) := by decide +kernel
theorem dX6_adopt_29 : decode cX6_adopt 29 = .ok (.ireturn, 1) := by decide +kernel
theorem dX6_adopt_30 : decode cX6_adopt 30 = .ok (.aload_n 0, 1) := by decide +kernel
theorem dX6_adopt_31 : decode cX6_adopt 31 = .ok (.getfield 35, 3) := by decide +kernel
theorem dX6_adopt_34 : decode cX6_adopt 34 = .ok (.iconst 4, 1) := by decide +kernel
theorem dX6_adopt_35 : decode cX6_adopt 35 = .ok (.iload_n 2, 1) := by decide +kernel
theorem dX6_adopt_36 : decode cX6_adopt 36 = .ok (.imul, 1) := by decide +kernel
theorem dX6_adopt_37 : decode cX6_adopt 37 = .ok (.iload_n 1, 1) := by decide +kernel
theorem dX6_adopt_38 : decode cX6_adopt 38 = .ok (.iadd, 1) := by decide +kernel
theorem dX6_adopt_39 : decode cX6_adopt 39 = .ok (.iaload, 1) := by decide +kernel
theorem dX6_adopt_40 : decode cX6_adopt 40 = .ok (.istore 4, 2) := by decide +kernel
theorem dX6_adopt_42 : decode cX6_adopt 42 = .ok (.aload_n 0, 1) := by decide +kernel
theorem dX6_adopt_43 : decode cX6_adopt 43 = .ok (.getfield 35, 3) := by decide +kernel
theorem dX6_adopt_46 : decode cX6_adopt 46 = .ok (.iconst 4, 1) := by decide +kernel
theorem dX6_adopt_47 : decode cX6_adopt 47 = .ok (.iload_n 2, 1) := by decide +kernel
theorem dX6_adopt_48 : decode cX6_adopt 48 = .ok (.imul, 1) := by decide +kernel
theorem dX6_adopt_49 : decode cX6_adopt 49 = .ok (.iload_n 1, 1) := by decide +kernel
theorem dX6_adopt_50 : decode cX6_adopt 50 = .ok (.iadd, 1) := by decide +kernel
theorem dX6_adopt_51 : decode cX6_adopt 51 = .ok (.iload_n 3, 1) := by decide +kernel
theorem dX6_adopt_52 : decode cX6_adopt 52 = .ok (.iastore, 1) := by decide +kernel
theorem dX6_adopt_53 : decode cX6_adopt 53 = .ok (.iload 4, 2) := by decide +kernel
theorem dX6_adopt_55 : decode cX6_adopt 55 = .ok (.ireturn, 1) := by decide +kernel
theorem dX6_child_0 : decode cX6_child 0 = .ok (.iconst (-1), 1) := by decide +kernel
theorem dX6_child_1 : decode cX6_child 1 = .ok (.istore_n 3, 1) := by decide +kernel
theorem dX6_child_2 : decode cX6_child 2 = .ok (.iconst 0, 1) := by decide +kernel
theorem dX6_child_3 : decode cX6_child 3 = .ok (.istore 4, 2) := by decide +kernel
theorem dX6_child_5 : decode cX6_child 5 = .ok (.iload 4, 2) := by decide +kernel
theorem dX6_child_7 : decode cX6_child 7 = .ok (.bipush 16, 2) := by decide +kernel
theorem dX6_child_9 : decode cX6_child 9 = .ok (.if_icmp .ge 75, 3) := by decide +kernel
theorem dX6_child_12 : decode cX6_child 12 = .ok (.aload_n 0, 1) := by decide +kernel
theorem dX6_child_13 : decode cX6_child 13 = .ok (.getfield 7, 3) := by decide +kernel
theorem dX6_child_16 : decode cX6_child 16 = .ok (.bipush 16, 2) := by decide +kernel
theorem dX6_child_18 : decode cX6_child 18 = .ok (.iload_n 1, 1) := by decide +kernel
theorem dX6_child_19 : decode cX6_child 19 = .ok (.imul, 1) := by decide +kernel
theorem dX6_child_20 : decode cX6_child 20 = .ok (.iload 4, 2) := by decide +kernel
theorem dX6_child_22 : decode cX6_child 22 = .ok (.iadd, 1) := by decide +kernel
theorem dX6_child_23 : decode cX6_child 23 = .ok (.baload, 1) := by decide +kernel
theorem dX6_child_24 : decode cX6_child 24 = .ok (.ifCond .eq 29, 3) := by decide +kernel
theorem dX6_child_27 : decode cX6_child 27 = .ok (.iload 4, 2) := by decide +kernel
theorem dX6_child_29 : decode cX6_child 29 = .ok (.iload_n 2, 1) := by decide +kernel
theorem dX6_child_30 : decode cX6_child 30 = .ok (.if_icmp .eq 23, 3) := by decide +kernel
theorem dX6_child_33 : decode cX6_child 33 = .ok (.aload_n 0, 1) := by decide +kernel
theorem dX6_child_34 : decode cX6_child 34 = .ok (.getfield 13, 3) := by decide +kernel
theorem dX6_child_37 : decode cX6_child 37 = .ok (.bipush 16, 2) := by decide +kernel
theorem dX6_child_39 : decode cX6_child 39 = .ok (.iload_n 1, 1) := by decide +kernel
theorem dX6_child_40 : decode cX6_child 40 = .ok (.imul, 1) := by decide +kernel
theorem dX6_child_41 : decode cX6_child 41 = .ok (.iload 4, 2) := by decide +kernel
theorem dX6_child_43 : decode cX6_child 43 = .ok (.iadd, 1) := by decide +kernel
theorem dX6_child_44 : decode cX6_child 44 = .ok (.iaload, 1) := by decide +kernel
theorem dX6_child_45 : decode cX6_child 45 = .ok (.iload_n 2, 1) := by decide +kernel
theorem dX6_child_46 : decode cX6_child 46 = .ok (.if_icmp .ne 7, 3) := by decide +kernel
theorem dX6_child_49 : decode cX6_child 49 = .ok (.iconst 1, 1) := by decide +kernel
theorem dX6_child_50 : decode cX6_child 50 = .ok (.goto 4, 3) := by decide +kernel
theorem dX6_child_53 : decode cX6_child 53 = .ok (.iconst 0, 1) := by decide +kernel
theorem dX6_child_54 : decode cX6_child 54 = .ok (.istore 5, 2) := by decide +kernel
theorem dX6_child_56 : decode cX6_child 56 = .ok (.iload 5, 2) := by decide +kernel
theorem dX6_child_58 : decode cX6_child 58 = .ok (.ifCond .ne 7, 3) := by decide +kernel
theorem dX6_child_61 : decode cX6_child 61 = .ok (.iload_n 3, 1) := by decide +kernel
theorem dX6_child_62 : decode cX6_child 62 = .ok (.goto 15, 3) := by decide +kernel
theorem dX6_child_65 : decode cX6_child 65 = .ok (.iload_n 3, 1) := by decide +kernel
theorem dX6_child_66 : decode cX6_child 66 = .ok (.iconst (-1), 1) := by decide +kernel
theorem dX6_child_67 : decode cX6_child 67 = .ok (.if_icmp .ne 8, 3) := by decide +kernel
theorem dX6_child_70 : decode cX6_child 70 = .ok (.iload 4, 2) := by decide +kernel
theorem dX6_child_72 : decode cX6_child 72 = .ok (.goto 5, 3) := by decide +kernel
theorem dX6_child_75 : decode cX6_child 75 = .ok (.bipush (-2), 2) := by decide +kernel
theorem dX6_child_77 : decode cX6_child 77 = .ok (.istore_n 3, 1) := by decide +kernel
theorem dX6_child_78 : decode cX6_child 78 = .ok (.iinc 4 1, 3) := by decide +kernel
theorem dX6_child_81 : decode cX6_child 81 = .ok (.goto (-76), 3) := by decide +kernel
theorem dX6_child_84 : decode cX6_child 84 = .ok (.iload_n 3, 1) := by decide +kernel
theorem dX6_child_85 : decode cX6_child 85 = .ok (.ireturn, 1) := by decide +kernel
theorem dX6_isNeeded_0 : decode cX6_isNeeded 0 = .ok (.iload_n 2, 1) := by decide +kernel
theorem dX6_isNeeded_1 : decode cX6_isNeeded 1 = .ok (.ifCond .ne 7, 3) := by decide +kernel
theorem dX6_isNeeded_4 : decode cX6_isNeeded 4 = .ok (.iconst 1, 1) := by decide +kernel
theorem dX6_isNeeded_5 : decode cX6_isNeeded 5 = .ok (.goto 4, 3) := by decide +kernel
theorem dX6_isNeeded_8 : decode cX6_isNeeded 8 = .ok (.iconst 0, 1) := by decide +kernel
theorem dX6_isNeeded_9 : decode cX6_isNeeded 9 = .ok (.istore_n 3, 1) := by decide +kernel
theorem dX6_isNeeded_10 : decode cX6_isNeeded 10 = .ok (.iconst 0, 1) := by decide +kernel
theorem dX6_isNeeded_11 : decode cX6_isNeeded 11 = .ok (.istore 4, 2) := by decide +kernel
theorem dX6_isNeeded_13 : decode cX6_isNeeded 13 = .ok (.iload 4, 2) := by decide +kernel
theorem dX6_isNeeded_15 : decode cX6_isNeeded 15 = .ok (.iconst 4, 1) := by decide +kernel
theorem dX6_isNeeded_16 : decode cX6_isNeeded 16 = .ok (.if_icmp .ge 34, 3) := by decide +kernel
theorem dX6_isNeeded_19 : decode cX6_isNeeded 19 = .ok (.iload_n 3, 1) := by decide +kernel
theorem dX6_isNeeded_20 : decode cX6_isNeeded 20 = .ok (.ifCond .ne 18, 3) := by decide +kernel
theorem dX6_isNeeded_23 : decode cX6_isNeeded 23 = .ok (.aload_n 0, 1) := by decide +kernel
theorem dX6_isNeeded_24 : decode cX6_isNeeded 24 = .ok (.getfield 35, 3) := by decide +kernel
theorem dX6_isNeeded_27 : decode cX6_isNeeded 27 = .ok (.iconst 4, 1) := by decide +kernel
theorem dX6_isNeeded_28 : decode cX6_isNeeded 28 = .ok (.iload_n 1, 1) := by decide +kernel
theorem dX6_isNeeded_29 : decode cX6_isNeeded 29 = .ok (.imul, 1) := by decide +kernel
theorem dX6_isNeeded_30 : decode cX6_isNeeded 30 = .ok (.iload 4, 2) := by decide +kernel
theorem dX6_isNeeded_32 : decode cX6_isNeeded 32 = .ok (.iadd, 1) := by decide +kernel
theorem dX6_isNeeded_33 : decode cX6_isNeeded 33 = .ok (.iaload, 1) := by decide +kernel
theorem dX6_isNeeded_34 : decode cX6_isNeeded 34 = .ok (.iload_n 2, 1) := by decide +kernel
theorem dX6_isNeeded_35 : decode cX6_isNeeded 35 = .ok (.if_icmp .ne 7, 3) := by decide +kernel
theorem dX6_isNeeded_38 : decode cX6_isNeeded 38 = .ok (.iconst 1, 1) := by decide +kernel
theorem dX6_isNeeded_39 : decode cX6_isNeeded 39 = .ok (.goto 4, 3) := by decide +kernel
theorem dX6_isNeeded_42 : decode cX6_isNeeded 42 = .ok (.iconst 0, 1) := by decide +kernel
theorem dX6_isNeeded_43 : decode cX6_isNeeded 43 = .ok (.istore_n 3, 1) := by decide +kernel
theorem dX6_isNeeded_44 : decode cX6_isNeeded 44 = .ok (.iinc 4 1, 3) := by decide +kernel
theorem dX6_isNeeded_47 : decode cX6_isNeeded 47 = .ok (.goto (-34), 3) := by decide +kernel
theorem dX6_isNeeded_50 : decode cX6_isNeeded 50 = .ok (.iconst 0, 1) := by decide +kernel
theorem dX6_isNeeded_51 : decode cX6_isNeeded 51 = .ok (.istore 4, 2) := by decide +kernel
theorem dX6_isNeeded_53 : decode cX6_isNeeded 53 = .ok (.iload 4, 2) := by decide +kernel
theorem dX6_isNeeded_55 : decode cX6_isNeeded 55 = .ok (.bipush 12, 2) := by decide +kernel
theorem dX6_isNeeded_57 : decode cX6_isNeeded 57 = .ok (.if_icmp .ge 50, 3) := by decide +kernel
theorem dX6_isNeeded_60 : decode cX6_isNeeded 60 = .ok (.iload_n 3, 1) := by decide +kernel
theorem dX6_isNeeded_61 : decode cX6_isNeeded 61 = .ok (.ifCond .ne 34, 3) := by decide +kernel
theorem dX6_isNeeded_64 : decode cX6_isNeeded 64 = .ok (.aload_n 0, 1) := by decide +kernel
theorem dX6_isNeeded_65 : decode cX6_isNeeded 65 = .ok (.getfield 44, 3) := by decide +kernel
theorem dX6_isNeeded_68 : decode cX6_isNeeded 68 = .ok (.bipush 12, 2) := by decide +kernel
theorem dX6_isNeeded_70 : decode cX6_isNeeded 70 = .ok (.iload_n 1, 1) := by decide +kernel
theorem dX6_isNeeded_71 : decode cX6_isNeeded 71 = .ok (.imul, 1) := by decide +kernel
theorem dX6_isNeeded_72 : decode cX6_isNeeded 72 = .ok (.iload 4, 2) := by decide +kernel
theorem dX6_isNeeded_74 : decode cX6_isNeeded 74 = .ok (.iadd, 1) := by decide +kernel
theorem dX6_isNeeded_75 : decode cX6_isNeeded 75 = .ok (.iaload, 1) := by decide +kernel
theorem dX6_isNeeded_76 : decode cX6_isNeeded 76 = .ok (.ifCond .eq 23, 3) := by decide +kernel
theorem dX6_isNeeded_79 : decode cX6_isNeeded 79 = .ok (.aload_n 0, 1) := by decide +kernel
theorem dX6_isNeeded_80 : decode cX6_isNeeded 80 = .ok (.getfield 47, 3) := by decide +kernel
theorem dX6_isNeeded_83 : decode cX6_isNeeded 83 = .ok (.bipush 12, 2) := by decide +kernel
theorem dX6_isNeeded_85 : decode cX6_isNeeded 85 = .ok (.iload_n 1, 1) := by decide +kernel
theorem dX6_isNeeded_86 : decode cX6_isNeeded 86 = .ok (.imul, 1) := by decide +kernel
theorem dX6_isNeeded_87 : decode cX6_isNeeded 87 = .ok (.iload 4, 2) := by decide +kernel
theorem dX6_isNeeded_89 : decode cX6_isNeeded 89 = .ok (.iadd, 1) := by decide +kernel
theorem dX6_isNeeded_90 : decode cX6_isNeeded 90 = .ok (.iaload, 1) := by decide +kernel
theorem dX6_isNeeded_91 : decode cX6_isNeeded 91 = .ok (.iload_n 2, 1) := by decide +kernel
theorem dX6_isNeeded_92 : decode cX6_isNeeded 92 = .ok (.if_icmp .ne 7, 3) := by decide +kernel
theorem dX6_isNeeded_95 : decode cX6_isNeeded 95 = .ok (.iconst 1, 1) := by decide +kernel
theorem dX6_isNeeded_96 : decode cX6_isNeeded 96 = .ok (.goto 4, 3) := by decide +kernel
theorem dX6_isNeeded_99 : decode cX6_isNeeded 99 = .ok (.iconst 0, 1) := by decide +kernel
theorem dX6_isNeeded_100 : decode cX6_isNeeded 100 = .ok (.istore_n 3, 1) := by decide +kernel
theorem dX6_isNeeded_101 : decode cX6_isNeeded 101 = .ok (.iinc 4 1, 3) := by decide +kernel
theorem dX6_isNeeded_104 : decode cX6_isNeeded 104 = .ok (.goto (-51), 3) := by decide +kernel
theorem dX6_isNeeded_107 : decode cX6_isNeeded 107 = .ok (.iload_n 3, 1) := by decide +kernel
theorem dX6_isNeeded_108 : decode cX6_isNeeded 108 = .ok (.ifCond .ne 14, 3) := by decide +kernel
theorem dX6_isNeeded_111 : decode cX6_isNeeded 111 = .ok (.aload_n 0, 1) := by decide +kernel
theorem dX6_isNeeded_112 : decode cX6_isNeeded 112 = .ok (.iload_n 1, 1) := by decide +kernel
theorem dX6_isNeeded_113 : decode cX6_isNeeded 113 = .ok (.iload_n 2, 1) := by decide +kernel
theorem dX6_isNeeded_114 : decode cX6_isNeeded 114 = .ok (.invokevirtual 152, 3) := by decide +kernel
theorem dX6_isNeeded_117 : decode cX6_isNeeded 117 = .ok (.bipush (-2), 2) := by decide +kernel
theorem dX6_isNeeded_119 : decode cX6_isNeeded 119 = .ok (.if_icmp .ne 7, 3) := by decide +kernel
theorem dX6_isNeeded_122 : decode cX6_isNeeded 122 = .ok (.iconst 1, 1) := by decide +kernel
theorem dX6_isNeeded_123 : decode cX6_isNeeded 123 = .ok (.goto 4, 3) := by decide +kernel
theorem dX6_isNeeded_126 : decode cX6_isNeeded 126 = .ok (.iconst 0, 1) := by decide +kernel
theorem dX6_isNeeded_127 : decode cX6_isNeeded 127 = .ok (.ireturn, 1) := by decide +kernel
theorem dX6_passes_0 : decode cX6_passes 0 = .ok (.iconst 0, 1) := by decide +kernel
theorem dX6_passes_1 : decode cX6_passes 1 = .ok (.istore 4, 2) := by decide +kernel
theorem dX6_passes_3 : decode cX6_passes 3 = .ok (.iconst 0, 1) := by decide +kernel
theorem dX6_passes_4 : decode cX6_passes 4 = .ok (.istore 5, 2) := by decide +kernel
theorem dX6_passes_6 : decode cX6_passes 6 = .ok (.iload 5, 2) := by decide +kernel
theorem dX6_passes_8 : decode cX6_passes 8 = .ok (.iconst 5, 1) := by decide +kernel
theorem dX6_passes_9 : decode cX6_passes 9 = .ok (.if_icmp .ge 61, 3) := by decide +kernel
theorem dX6_passes_12 : decode cX6_passes 12 = .ok (.iload_n 2, 1) := by decide +kernel
theorem dX6_passes_13 : decode cX6_passes 13 = .ok (.iconst (-1), 1) := by decide +kernel
theorem dX6_passes_14 : decode cX6_passes 14 = .ok (.if_icmp .eq 22, 3) := by decide +kernel
theorem dX6_passes_17 : decode cX6_passes 17 = .ok (.aload_n 0, 1) := by decide +kernel
theorem dX6_passes_18 : decode cX6_passes 18 = .ok (.getfield 23, 3) := by decide +kernel
theorem dX6_passes_21 : decode cX6_passes 21 = .ok (.iconst 5, 1) := by decide +kernel
theorem dX6_passes_22 : decode cX6_passes 22 = .ok (.iload_n 2, 1) := by decide +kernel
theorem dX6_passes_23 : decode cX6_passes 23 = .ok (.imul, 1) := by decide +kernel
theorem dX6_passes_24 : decode cX6_passes 24 = .ok (.iload 5, 2) := by decide +kernel
theorem dX6_passes_26 : decode cX6_passes 26 = .ok (.iadd, 1) := by decide +kernel
theorem dX6_passes_27 : decode cX6_passes 27 = .ok (.iaload, 1) := by decide +kernel
theorem dX6_passes_28 : decode cX6_passes 28 = .ok (.iconst 4, 1) := by decide +kernel
theorem dX6_passes_29 : decode cX6_passes 29 = .ok (.if_icmp .ne 7, 3) := by decide +kernel
theorem dX6_passes_32 : decode cX6_passes 32 = .ok (.iconst 1, 1) := by decide +kernel
theorem dX6_passes_33 : decode cX6_passes 33 = .ok (.goto 4, 3) := by decide +kernel
theorem dX6_passes_36 : decode cX6_passes 36 = .ok (.iconst 0, 1) := by decide +kernel
theorem dX6_passes_37 : decode cX6_passes 37 = .ok (.istore 6, 2) := by decide +kernel
theorem dX6_passes_39 : decode cX6_passes 39 = .ok (.iload 4, 2) := by decide +kernel
theorem dX6_passes_41 : decode cX6_passes 41 = .ok (.iload 6, 2) := by decide +kernel
theorem dX6_passes_43 : decode cX6_passes 43 = .ok (.iload_n 3, 1) := by decide +kernel
theorem dX6_passes_44 : decode cX6_passes 44 = .ok (.if_icmp .ne 16, 3) := by decide +kernel
theorem dX6_passes_47 : decode cX6_passes 47 = .ok (.aload_n 0, 1) := by decide +kernel
theorem dX6_passes_48 : decode cX6_passes 48 = .ok (.iconst 5, 1) := by decide +kernel
theorem dX6_passes_49 : decode cX6_passes 49 = .ok (.iload_n 1, 1) := by decide +kernel
theorem dX6_passes_50 : decode cX6_passes 50 = .ok (.imul, 1) := by decide +kernel
theorem dX6_passes_51 : decode cX6_passes 51 = .ok (.iload 5, 2) := by decide +kernel
theorem dX6_passes_53 : decode cX6_passes 53 = .ok (.iadd, 1) := by decide +kernel
theorem dX6_passes_54 : decode cX6_passes 54 = .ok (.invokevirtual 111, 3) := by decide +kernel
theorem dX6_passes_57 : decode cX6_passes 57 = .ok (.goto 4, 3) := by decide +kernel
theorem dX6_passes_60 : decode cX6_passes 60 = .ok (.iconst 0, 1) := by decide +kernel
theorem dX6_passes_61 : decode cX6_passes 61 = .ok (.iadd, 1) := by decide +kernel
theorem dX6_passes_62 : decode cX6_passes 62 = .ok (.istore 4, 2) := by decide +kernel
theorem dX6_passes_64 : decode cX6_passes 64 = .ok (.iinc 5 1, 3) := by decide +kernel
theorem dX6_passes_67 : decode cX6_passes 67 = .ok (.goto (-61), 3) := by decide +kernel
theorem dX6_passes_70 : decode cX6_passes 70 = .ok (.iload 4, 2) := by decide +kernel
theorem dX6_passes_72 : decode cX6_passes 72 = .ok (.ireturn, 1) := by decide +kernel
theorem dX6_canFold_0 : decode cX6_canFold 0 = .ok (.aload_n 0, 1) := by decide +kernel
theorem dX6_canFold_1 : decode cX6_canFold 1 = .ok (.iload_n 1, 1) := by decide +kernel
theorem dX6_canFold_2 : decode cX6_canFold 2 = .ok (.iload_n 2, 1) := by decide +kernel
theorem dX6_canFold_3 : decode cX6_canFold 3 = .ok (.invokevirtual 155, 3) := by decide +kernel
theorem dX6_canFold_6 : decode cX6_canFold 6 = .ok (.ifCond .eq 5, 3) := by decide +kernel
theorem dX6_canFold_9 : decode cX6_canFold 9 = .ok (.iconst 0, 1) := by decide +kernel
theorem dX6_canFold_10 : decode cX6_canFold 10 = .ok (.ireturn, 1) := by decide +kernel
theorem dX6_canFold_11 : decode cX6_canFold 11 = .ok (.aload_n 0, 1) := by decide +kernel
theorem dX6_canFold_12 : decode cX6_canFold 12 = .ok (.iload_n 1, 1) := by decide +kernel
theorem dX6_canFold_13 : decode cX6_canFold 13 = .ok (.iload_n 2, 1) := by decide +kernel
theorem dX6_canFold_14 : decode cX6_canFold 14 = .ok (.invokevirtual 152, 3) := by decide +kernel
theorem dX6_canFold_17 : decode cX6_canFold 17 = .ok (.istore_n 3, 1) := by decide +kernel
theorem dX6_canFold_18 : decode cX6_canFold 18 = .ok (.iload_n 3, 1) := by decide +kernel
theorem dX6_canFold_19 : decode cX6_canFold 19 = .ok (.iconst (-1), 1) := by decide +kernel
theorem dX6_canFold_20 : decode cX6_canFold 20 = .ok (.if_icmp .ne 5, 3) := by decide +kernel
theorem dX6_canFold_23 : decode cX6_canFold 23 = .ok (.iconst 1, 1) := by decide +kernel
theorem dX6_canFold_24 : decode cX6_canFold 24 = .ok (.ireturn, 1) := by decide +kernel
theorem dX6_canFold_25 : decode cX6_canFold 25 = .ok (.bipush 16, 2) := by decide +kernel
theorem dX6_canFold_27 : decode cX6_canFold 27 = .ok (.iload_n 1, 1) := by decide +kernel
theorem dX6_canFold_28 : decode cX6_canFold 28 = .ok (.imul, 1) := by decide +kernel
theorem dX6_canFold_29 : decode cX6_canFold 29 = .ok (.iload_n 2, 1) := by decide +kernel
theorem dX6_canFold_30 : decode cX6_canFold 30 = .ok (.iadd, 1) := by decide +kernel
theorem dX6_canFold_31 : decode cX6_canFold 31 = .ok (.istore 4, 2) := by decide +kernel
theorem dX6_canFold_33 : decode cX6_canFold 33 = .ok (.bipush 16, 2) := by decide +kernel
theorem dX6_canFold_35 : decode cX6_canFold 35 = .ok (.iload_n 1, 1) := by decide +kernel
theorem dX6_canFold_36 : decode cX6_canFold 36 = .ok (.imul, 1) := by decide +kernel
theorem dX6_canFold_37 : decode cX6_canFold 37 = .ok (.iload_n 3, 1) := by decide +kernel
theorem dX6_canFold_38 : decode cX6_canFold 38 = .ok (.iadd, 1) := by decide +kernel
theorem dX6_canFold_39 : decode cX6_canFold 39 = .ok (.istore 5, 2) := by decide +kernel
theorem dX6_canFold_41 : decode cX6_canFold 41 = .ok (.aload_n 0, 1) := by decide +kernel
theorem dX6_canFold_42 : decode cX6_canFold 42 = .ok (.getfield 17, 3) := by decide +kernel
theorem dX6_canFold_45 : decode cX6_canFold 45 = .ok (.iload 4, 2) := by decide +kernel
theorem dX6_canFold_47 : decode cX6_canFold 47 = .ok (.iaload, 1) := by decide +kernel
theorem dX6_canFold_48 : decode cX6_canFold 48 = .ok (.aload_n 0, 1) := by decide +kernel
theorem dX6_canFold_49 : decode cX6_canFold 49 = .ok (.getfield 17, 3) := by decide +kernel
theorem dX6_canFold_52 : decode cX6_canFold 52 = .ok (.iload 5, 2) := by decide +kernel
theorem dX6_canFold_54 : decode cX6_canFold 54 = .ok (.iaload, 1) := by decide +kernel
theorem dX6_canFold_55 : decode cX6_canFold 55 = .ok (.if_icmp .ne 14, 3) := by decide +kernel
theorem dX6_canFold_58 : decode cX6_canFold 58 = .ok (.aload_n 0, 1) := by decide +kernel
theorem dX6_canFold_59 : decode cX6_canFold 59 = .ok (.iload 4, 2) := by decide +kernel
theorem dX6_canFold_61 : decode cX6_canFold 61 = .ok (.iconst (-1), 1) := by decide +kernel
theorem dX6_canFold_62 : decode cX6_canFold 62 = .ok (.iconst 0, 1) := by decide +kernel
theorem dX6_canFold_63 : decode cX6_canFold 63 = .ok (.invokevirtual 158, 3) := by decide +kernel
theorem dX6_canFold_66 : decode cX6_canFold 66 = .ok (.goto 4, 3) := by decide +kernel
theorem dX6_canFold_69 : decode cX6_canFold 69 = .ok (.iconst 0, 1) := by decide +kernel
theorem dX6_canFold_70 : decode cX6_canFold 70 = .ok (.istore 6, 2) := by decide +kernel
theorem dX6_canFold_72 : decode cX6_canFold 72 = .ok (.aload_n 0, 1) := by decide +kernel
theorem dX6_canFold_73 : decode cX6_canFold 73 = .ok (.aload_n 0, 1) := by decide +kernel
theorem dX6_canFold_74 : decode cX6_canFold 74 = .ok (.getfield 17, 3) := by decide +kernel
theorem dX6_canFold_77 : decode cX6_canFold 77 = .ok (.iload 5, 2) := by decide +kernel
theorem dX6_canFold_79 : decode cX6_canFold 79 = .ok (.iaload, 1) := by decide +kernel
theorem dX6_canFold_80 : decode cX6_canFold 80 = .ok (.aload_n 0, 1) := by decide +kernel
theorem dX6_canFold_81 : decode cX6_canFold 81 = .ok (.iload 4, 2) := by decide +kernel
theorem dX6_canFold_83 : decode cX6_canFold 83 = .ok (.iload 5, 2) := by decide +kernel
theorem dX6_canFold_85 : decode cX6_canFold 85 = .ok (.iconst 1, 1) := by decide +kernel
theorem dX6_canFold_86 : decode cX6_canFold 86 = .ok (.invokevirtual 158, 3) := by decide +kernel
theorem dX6_canFold_89 : decode cX6_canFold 89 = .ok (.iload 6, 2) := by decide +kernel
theorem dX6_canFold_91 : decode cX6_canFold 91 = .ok (.isub, 1) := by decide +kernel
theorem dX6_canFold_92 : decode cX6_canFold 92 = .ok (.invokevirtual 123, 3) := by decide +kernel
theorem dX6_canFold_95 : decode cX6_canFold 95 = .ok (.ireturn, 1) := by decide +kernel
theorem dX6_fold_0 : decode cX6_fold 0 = .ok (.aload_n 0, 1) := by decide +kernel
theorem dX6_fold_1 : decode cX6_fold 1 = .ok (.iload_n 1, 1) := by decide +kernel
theorem dX6_fold_2 : decode cX6_fold 2 = .ok (.iload_n 2, 1) := by decide +kernel
theorem dX6_fold_3 : decode cX6_fold 3 = .ok (.invokevirtual 149, 3) := by decide +kernel
theorem dX6_fold_6 : decode cX6_fold 6 = .ok (.istore_n 3, 1) := by decide +kernel
theorem dX6_fold_7 : decode cX6_fold 7 = .ok (.aload_n 0, 1) := by decide +kernel
theorem dX6_fold_8 : decode cX6_fold 8 = .ok (.iload_n 3, 1) := by decide +kernel
theorem dX6_fold_9 : decode cX6_fold 9 = .ok (.ifCond .ne 7, 3) := by decide +kernel
theorem dX6_fold_12 : decode cX6_fold 12 = .ok (.iconst 1, 1) := by decide +kernel
theorem dX6_fold_13 : decode cX6_fold 13 = .ok (.goto 17, 3) := by decide +kernel
theorem dX6_fold_16 : decode cX6_fold 16 = .ok (.aload_n 0, 1) := by decide +kernel
theorem dX6_fold_17 : decode cX6_fold 17 = .ok (.iload_n 1, 1) := by decide +kernel
theorem dX6_fold_18 : decode cX6_fold 18 = .ok (.iload_n 2, 1) := by decide +kernel
theorem dX6_fold_19 : decode cX6_fold 19 = .ok (.invokevirtual 162, 3) := by decide +kernel
theorem dX6_fold_22 : decode cX6_fold 22 = .ok (.ifCond .eq 7, 3) := by decide +kernel
theorem dX6_fold_25 : decode cX6_fold 25 = .ok (.iconst 0, 1) := by decide +kernel
theorem dX6_fold_26 : decode cX6_fold 26 = .ok (.goto 4, 3) := by decide +kernel
theorem dX6_fold_29 : decode cX6_fold 29 = .ok (.iconst 2, 1) := by decide +kernel
theorem dX6_fold_30 : decode cX6_fold 30 = .ok (.invokevirtual 120, 3) := by decide +kernel
theorem dX6_fold_33 : decode cX6_fold 33 = .ok (.ifCond .eq 5, 3) := by decide +kernel
theorem dX6_fold_36 : decode cX6_fold 36 = .ok (.iconst 0, 1) := by decide +kernel
theorem dX6_fold_37 : decode cX6_fold 37 = .ok (.ireturn, 1) := by decide +kernel
theorem dX6_fold_38 : decode cX6_fold 38 = .ok (.bipush 16, 2) := by decide +kernel
theorem dX6_fold_40 : decode cX6_fold 40 = .ok (.iload_n 1, 1) := by decide +kernel
theorem dX6_fold_41 : decode cX6_fold 41 = .ok (.imul, 1) := by decide +kernel
theorem dX6_fold_42 : decode cX6_fold 42 = .ok (.iload_n 2, 1) := by decide +kernel
theorem dX6_fold_43 : decode cX6_fold 43 = .ok (.iadd, 1) := by decide +kernel
theorem dX6_fold_44 : decode cX6_fold 44 = .ok (.istore 4, 2) := by decide +kernel
theorem dX6_fold_46 : decode cX6_fold 46 = .ok (.aload_n 0, 1) := by decide +kernel
theorem dX6_fold_47 : decode cX6_fold 47 = .ok (.iload_n 1, 1) := by decide +kernel
theorem dX6_fold_48 : decode cX6_fold 48 = .ok (.iload_n 2, 1) := by decide +kernel
theorem dX6_fold_49 : decode cX6_fold 49 = .ok (.invokevirtual 152, 3) := by decide +kernel
theorem dX6_fold_52 : decode cX6_fold 52 = .ok (.istore 5, 2) := by decide +kernel
theorem dX6_fold_54 : decode cX6_fold 54 = .ok (.iload 5, 2) := by decide +kernel
theorem dX6_fold_56 : decode cX6_fold 56 = .ok (.iconst (-1), 1) := by decide +kernel
theorem dX6_fold_57 : decode cX6_fold 57 = .ok (.if_icmp .ne 7, 3) := by decide +kernel
theorem dX6_fold_60 : decode cX6_fold 60 = .ok (.iconst (-1), 1) := by decide +kernel
theorem dX6_fold_61 : decode cX6_fold 61 = .ok (.goto 10, 3) := by decide +kernel
theorem dX6_fold_64 : decode cX6_fold 64 = .ok (.bipush 16, 2) := by decide +kernel
theorem dX6_fold_66 : decode cX6_fold 66 = .ok (.iload_n 1, 1) := by decide +kernel
theorem dX6_fold_67 : decode cX6_fold 67 = .ok (.imul, 1) := by decide +kernel
theorem dX6_fold_68 : decode cX6_fold 68 = .ok (.iload 5, 2) := by decide +kernel
theorem dX6_fold_70 : decode cX6_fold 70 = .ok (.iadd, 1) := by decide +kernel
theorem dX6_fold_71 : decode cX6_fold 71 = .ok (.istore 6, 2) := by decide +kernel
theorem dX6_fold_73 : decode cX6_fold 73 = .ok (.aload_n 0, 1) := by decide +kernel
theorem dX6_fold_74 : decode cX6_fold 74 = .ok (.iload 4, 2) := by decide +kernel
theorem dX6_fold_76 : decode cX6_fold 76 = .ok (.iload 6, 2) := by decide +kernel
theorem dX6_fold_78 : decode cX6_fold 78 = .ok (.iconst 0, 1) := by decide +kernel
theorem dX6_fold_79 : decode cX6_fold 79 = .ok (.invokevirtual 158, 3) := by decide +kernel
theorem dX6_fold_82 : decode cX6_fold 82 = .ok (.istore 7, 2) := by decide +kernel
theorem dX6_fold_84 : decode cX6_fold 84 = .ok (.iconst 0, 1) := by decide +kernel
theorem dX6_fold_85 : decode cX6_fold 85 = .ok (.istore 8, 2) := by decide +kernel
theorem dX6_fold_87 : decode cX6_fold 87 = .ok (.iload 8, 2) := by decide +kernel
theorem dX6_fold_89 : decode cX6_fold 89 = .ok (.iconst 5, 1) := by decide +kernel
theorem dX6_fold_90 : decode cX6_fold 90 = .ok (.if_icmp .ge 124, 3) := by decide +kernel
theorem dX6_fold_93 : decode cX6_fold 93 = .ok (.iconst 5, 1) := by decide +kernel
theorem dX6_fold_94 : decode cX6_fold 94 = .ok (.iload 4, 2) := by decide +kernel
theorem dX6_fold_96 : decode cX6_fold 96 = .ok (.imul, 1) := by decide +kernel
theorem dX6_fold_97 : decode cX6_fold 97 = .ok (.iload 8, 2) := by decide +kernel
theorem dX6_fold_99 : decode cX6_fold 99 = .ok (.iadd, 1) := by decide +kernel
theorem dX6_fold_100 : decode cX6_fold 100 = .ok (.istore 9, 2) := by decide +kernel
theorem dX6_fold_102 : decode cX6_fold 102 = .ok (.iload 6, 2) := by decide +kernel
theorem dX6_fold_104 : decode cX6_fold 104 = .ok (.iconst (-1), 1) := by decide +kernel
theorem dX6_fold_105 : decode cX6_fold 105 = .ok (.if_icmp .eq 95, 3) := by decide +kernel
theorem dX6_fold_108 : decode cX6_fold 108 = .ok (.aload_n 0, 1) := by decide +kernel
theorem dX6_fold_109 : decode cX6_fold 109 = .ok (.getfield 23, 3) := by decide +kernel
theorem dX6_fold_112 : decode cX6_fold 112 = .ok (.iconst 5, 1) := by decide +kernel
theorem dX6_fold_113 : decode cX6_fold 113 = .ok (.iload 6, 2) := by decide +kernel
theorem dX6_fold_115 : decode cX6_fold 115 = .ok (.imul, 1) := by decide +kernel
theorem dX6_fold_116 : decode cX6_fold 116 = .ok (.iload 8, 2) := by decide +kernel
theorem dX6_fold_118 : decode cX6_fold 118 = .ok (.iadd, 1) := by decide +kernel
theorem dX6_fold_119 : decode cX6_fold 119 = .ok (.iaload, 1) := by decide +kernel
theorem dX6_fold_120 : decode cX6_fold 120 = .ok (.iconst 4, 1) := by decide +kernel
theorem dX6_fold_121 : decode cX6_fold 121 = .ok (.if_icmp .ne 79, 3) := by decide +kernel
theorem dX6_fold_124 : decode cX6_fold 124 = .ok (.aload_n 0, 1) := by decide +kernel
theorem dX6_fold_125 : decode cX6_fold 125 = .ok (.getfield 23, 3) := by decide +kernel
theorem dX6_fold_128 : decode cX6_fold 128 = .ok (.iconst 5, 1) := by decide +kernel
theorem dX6_fold_129 : decode cX6_fold 129 = .ok (.iload 6, 2) := by decide +kernel
theorem dX6_fold_131 : decode cX6_fold 131 = .ok (.imul, 1) := by decide +kernel
theorem dX6_fold_132 : decode cX6_fold 132 = .ok (.iload 8, 2) := by decide +kernel
theorem dX6_fold_134 : decode cX6_fold 134 = .ok (.iadd, 1) := by decide +kernel
theorem dX6_fold_135 : decode cX6_fold 135 = .ok (.aload_n 0, 1) := by decide +kernel
theorem dX6_fold_136 : decode cX6_fold 136 = .ok (.getfield 23, 3) := by decide +kernel
theorem dX6_fold_139 : decode cX6_fold 139 = .ok (.iload 9, 2) := by decide +kernel
theorem dX6_fold_141 : decode cX6_fold 141 = .ok (.iaload, 1) := by decide +kernel
theorem dX6_fold_142 : decode cX6_fold 142 = .ok (.iastore, 1) := by decide +kernel
theorem dX6_fold_143 : decode cX6_fold 143 = .ok (.aload_n 0, 1) := by decide +kernel
theorem dX6_fold_144 : decode cX6_fold 144 = .ok (.getfield 26, 3) := by decide +kernel
theorem dX6_fold_147 : decode cX6_fold 147 = .ok (.iconst 5, 1) := by decide +kernel
theorem dX6_fold_148 : decode cX6_fold 148 = .ok (.iload 6, 2) := by decide +kernel
theorem dX6_fold_150 : decode cX6_fold 150 = .ok (.imul, 1) := by decide +kernel
theorem dX6_fold_151 : decode cX6_fold 151 = .ok (.iload 8, 2) := by decide +kernel
theorem dX6_fold_153 : decode cX6_fold 153 = .ok (.iadd, 1) := by decide +kernel
theorem dX6_fold_154 : decode cX6_fold 154 = .ok (.aload_n 0, 1) := by decide +kernel
theorem dX6_fold_155 : decode cX6_fold 155 = .ok (.getfield 26, 3) := by decide +kernel
theorem dX6_fold_158 : decode cX6_fold 158 = .ok (.iload 9, 2) := by decide +kernel
theorem dX6_fold_160 : decode cX6_fold 160 = .ok (.iaload, 1) := by decide +kernel
theorem dX6_fold_161 : decode cX6_fold 161 = .ok (.iastore, 1) := by decide +kernel
theorem dX6_fold_162 : decode cX6_fold 162 = .ok (.aload_n 0, 1) := by decide +kernel
theorem dX6_fold_163 : decode cX6_fold 163 = .ok (.getfield 29, 3) := by decide +kernel
theorem dX6_fold_166 : decode cX6_fold 166 = .ok (.iconst 5, 1) := by decide +kernel
theorem dX6_fold_167 : decode cX6_fold 167 = .ok (.iload 6, 2) := by decide +kernel
theorem dX6_fold_169 : decode cX6_fold 169 = .ok (.imul, 1) := by decide +kernel
theorem dX6_fold_170 : decode cX6_fold 170 = .ok (.iload 8, 2) := by decide +kernel
theorem dX6_fold_172 : decode cX6_fold 172 = .ok (.iadd, 1) := by decide +kernel
theorem dX6_fold_173 : decode cX6_fold 173 = .ok (.aload_n 0, 1) := by decide +kernel
theorem dX6_fold_174 : decode cX6_fold 174 = .ok (.getfield 29, 3) := by decide +kernel
theorem dX6_fold_177 : decode cX6_fold 177 = .ok (.iload 9, 2) := by decide +kernel
theorem dX6_fold_179 : decode cX6_fold 179 = .ok (.iaload, 1) := by decide +kernel
theorem dX6_fold_180 : decode cX6_fold 180 = .ok (.iastore, 1) := by decide +kernel
theorem dX6_fold_181 : decode cX6_fold 181 = .ok (.aload_n 0, 1) := by decide +kernel
theorem dX6_fold_182 : decode cX6_fold 182 = .ok (.getfield 32, 3) := by decide +kernel
theorem dX6_fold_185 : decode cX6_fold 185 = .ok (.iconst 5, 1) := by decide +kernel
theorem dX6_fold_186 : decode cX6_fold 186 = .ok (.iload 6, 2) := by decide +kernel
theorem dX6_fold_188 : decode cX6_fold 188 = .ok (.imul, 1) := by decide +kernel
theorem dX6_fold_189 : decode cX6_fold 189 = .ok (.iload 8, 2) := by decide +kernel
theorem dX6_fold_191 : decode cX6_fold 191 = .ok (.iadd, 1) := by decide +kernel
theorem dX6_fold_192 : decode cX6_fold 192 = .ok (.aload_n 0, 1) := by decide +kernel
theorem dX6_fold_193 : decode cX6_fold 193 = .ok (.getfield 32, 3) := by decide +kernel
theorem dX6_fold_196 : decode cX6_fold 196 = .ok (.iload 9, 2) := by decide +kernel
theorem dX6_fold_198 : decode cX6_fold 198 = .ok (.iaload, 1) := by decide +kernel
theorem dX6_fold_199 : decode cX6_fold 199 = .ok (.iastore, 1) := by decide +kernel
theorem dX6_fold_200 : decode cX6_fold 200 = .ok (.aload_n 0, 1) := by decide +kernel
theorem dX6_fold_201 : decode cX6_fold 201 = .ok (.getfield 23, 3) := by decide +kernel
theorem dX6_fold_204 : decode cX6_fold 204 = .ok (.iload 9, 2) := by decide +kernel
theorem dX6_fold_206 : decode cX6_fold 206 = .ok (.iconst 4, 1) := by decide +kernel
theorem dX6_fold_207 : decode cX6_fold 207 = .ok (.iastore, 1) := by decide +kernel
theorem dX6_fold_208 : decode cX6_fold 208 = .ok (.iinc 8 1, 3) := by decide +kernel
theorem dX6_fold_211 : decode cX6_fold 211 = .ok (.goto (-124), 3) := by decide +kernel
theorem dX6_fold_214 : decode cX6_fold 214 = .ok (.iload 6, 2) := by decide +kernel
theorem dX6_fold_216 : decode cX6_fold 216 = .ok (.iconst (-1), 1) := by decide +kernel
theorem dX6_fold_217 : decode cX6_fold 217 = .ok (.if_icmp .eq 17, 3) := by decide +kernel
theorem dX6_fold_220 : decode cX6_fold 220 = .ok (.aload_n 0, 1) := by decide +kernel
theorem dX6_fold_221 : decode cX6_fold 221 = .ok (.getfield 13, 3) := by decide +kernel
theorem dX6_fold_224 : decode cX6_fold 224 = .ok (.iload 6, 2) := by decide +kernel
theorem dX6_fold_226 : decode cX6_fold 226 = .ok (.aload_n 0, 1) := by decide +kernel
theorem dX6_fold_227 : decode cX6_fold 227 = .ok (.getfield 13, 3) := by decide +kernel
theorem dX6_fold_230 : decode cX6_fold 230 = .ok (.iload 4, 2) := by decide +kernel
theorem dX6_fold_232 : decode cX6_fold 232 = .ok (.iaload, 1) := by decide +kernel
theorem dX6_fold_233 : decode cX6_fold 233 = .ok (.iastore, 1) := by decide +kernel
theorem dX6_fold_234 : decode cX6_fold 234 = .ok (.aload_n 0, 1) := by decide +kernel
theorem dX6_fold_235 : decode cX6_fold 235 = .ok (.getfield 7, 3) := by decide +kernel
theorem dX6_fold_238 : decode cX6_fold 238 = .ok (.iload 4, 2) := by decide +kernel
theorem dX6_fold_240 : decode cX6_fold 240 = .ok (.iconst 0, 1) := by decide +kernel
theorem dX6_fold_241 : decode cX6_fold 241 = .ok (.bastore, 1) := by decide +kernel
theorem dX6_fold_242 : decode cX6_fold 242 = .ok (.iload 7, 2) := by decide +kernel
theorem dX6_fold_244 : decode cX6_fold 244 = .ok (.ireturn, 1) := by decide +kernel
theorem dX6_sheets_0 : decode cX6_sheets 0 = .ok (.aload_n 0, 1) := by decide +kernel
theorem dX6_sheets_1 : decode cX6_sheets 1 = .ok (.iconst 0, 1) := by decide +kernel
theorem dX6_sheets_2 : decode cX6_sheets 2 = .ok (.putfield 83, 3) := by decide +kernel
theorem dX6_sheets_5 : decode cX6_sheets 5 = .ok (.aload_n 0, 1) := by decide +kernel
theorem dX6_sheets_6 : decode cX6_sheets 6 = .ok (.getfield 91, 3) := by decide +kernel
theorem dX6_sheets_9 : decode cX6_sheets 9 = .ok (.ireturn, 1) := by decide +kernel
theorem dX6_noSheet_0 : decode cX6_noSheet 0 = .ok (.aload_n 0, 1) := by decide +kernel
theorem dX6_noSheet_1 : decode cX6_noSheet 1 = .ok (.aload_n 0, 1) := by decide +kernel
theorem dX6_noSheet_2 : decode cX6_noSheet 2 = .ok (.iload_n 1, 1) := by decide +kernel
theorem dX6_noSheet_3 : decode cX6_noSheet 3 = .ok (.invokevirtual 94, 3) := by decide +kernel
theorem dX6_noSheet_6 : decode cX6_noSheet 6 = .ok (.ifCond .eq 7, 3) := by decide +kernel
theorem dX6_noSheet_9 : decode cX6_noSheet 9 = .ok (.iconst 0, 1) := by decide +kernel
theorem dX6_noSheet_10 : decode cX6_noSheet 10 = .ok (.goto 4, 3) := by decide +kernel
theorem dX6_noSheet_13 : decode cX6_noSheet 13 = .ok (.iconst 1, 1) := by decide +kernel
theorem dX6_noSheet_14 : decode cX6_noSheet 14 = .ok (.invokevirtual 120, 3) := by decide +kernel
theorem dX6_noSheet_17 : decode cX6_noSheet 17 = .ok (.ireturn, 1) := by decide +kernel
theorem dX6_versions_0 : decode cX6_versions 0 = .ok (.aload_n 0, 1) := by decide +kernel
theorem dX6_versions_1 : decode cX6_versions 1 = .ok (.iload_n 1, 1) := by decide +kernel
theorem dX6_versions_2 : decode cX6_versions 2 = .ok (.invokevirtual 165, 3) := by decide +kernel
theorem dX6_versions_5 : decode cX6_versions 5 = .ok (.ifCond .eq 5, 3) := by decide +kernel
theorem dX6_versions_8 : decode cX6_versions 8 = .ok (.iconst 0, 1) := by decide +kernel
theorem dX6_versions_9 : decode cX6_versions 9 = .ok (.ireturn, 1) := by decide +kernel
theorem dX6_versions_10 : decode cX6_versions 10 = .ok (.iconst 0, 1) := by decide +kernel
theorem dX6_versions_11 : decode cX6_versions 11 = .ok (.istore_n 2, 1) := by decide +kernel
theorem dX6_versions_12 : decode cX6_versions 12 = .ok (.iconst 0, 1) := by decide +kernel
theorem dX6_versions_13 : decode cX6_versions 13 = .ok (.istore_n 3, 1) := by decide +kernel
theorem dX6_versions_14 : decode cX6_versions 14 = .ok (.iload_n 3, 1) := by decide +kernel
theorem dX6_versions_15 : decode cX6_versions 15 = .ok (.bipush 16, 2) := by decide +kernel
theorem dX6_versions_17 : decode cX6_versions 17 = .ok (.if_icmp .ge 31, 3) := by decide +kernel
theorem dX6_versions_20 : decode cX6_versions 20 = .ok (.iload_n 2, 1) := by decide +kernel
theorem dX6_versions_21 : decode cX6_versions 21 = .ok (.aload_n 0, 1) := by decide +kernel
theorem dX6_versions_22 : decode cX6_versions 22 = .ok (.getfield 7, 3) := by decide +kernel
theorem dX6_versions_25 : decode cX6_versions 25 = .ok (.bipush 16, 2) := by decide +kernel
theorem dX6_versions_27 : decode cX6_versions 27 = .ok (.iload_n 1, 1) := by decide +kernel
theorem dX6_versions_28 : decode cX6_versions 28 = .ok (.imul, 1) := by decide +kernel
theorem dX6_versions_29 : decode cX6_versions 29 = .ok (.iload_n 3, 1) := by decide +kernel
theorem dX6_versions_30 : decode cX6_versions 30 = .ok (.iadd, 1) := by decide +kernel
theorem dX6_versions_31 : decode cX6_versions 31 = .ok (.baload, 1) := by decide +kernel
theorem dX6_versions_32 : decode cX6_versions 32 = .ok (.ifCond .eq 7, 3) := by decide +kernel
theorem dX6_versions_35 : decode cX6_versions 35 = .ok (.iconst 1, 1) := by decide +kernel
theorem dX6_versions_36 : decode cX6_versions 36 = .ok (.goto 4, 3) := by decide +kernel
theorem dX6_versions_39 : decode cX6_versions 39 = .ok (.iconst 0, 1) := by decide +kernel
theorem dX6_versions_40 : decode cX6_versions 40 = .ok (.iadd, 1) := by decide +kernel
theorem dX6_versions_41 : decode cX6_versions 41 = .ok (.istore_n 2, 1) := by decide +kernel
theorem dX6_versions_42 : decode cX6_versions 42 = .ok (.iinc 3 1, 3) := by decide +kernel
theorem dX6_versions_45 : decode cX6_versions 45 = .ok (.goto (-31), 3) := by decide +kernel
theorem dX6_versions_48 : decode cX6_versions 48 = .ok (.iload_n 2, 1) := by decide +kernel
theorem dX6_versions_49 : decode cX6_versions 49 = .ok (.ireturn, 1) := by decide +kernel
theorem dX6_head_0 : decode cX6_head 0 = .ok (.aload_n 0, 1) := by decide +kernel
theorem dX6_head_1 : decode cX6_head 1 = .ok (.iload_n 1, 1) := by decide +kernel
theorem dX6_head_2 : decode cX6_head 2 = .ok (.invokestatic 127, 3) := by decide +kernel
theorem dX6_head_5 : decode cX6_head 5 = .ok (.ifCond .eq 15, 3) := by decide +kernel
theorem dX6_head_8 : decode cX6_head 8 = .ok (.aload_n 0, 1) := by decide +kernel
theorem dX6_head_9 : decode cX6_head 9 = .ok (.iload_n 2, 1) := by decide +kernel
theorem dX6_head_10 : decode cX6_head 10 = .ok (.invokevirtual 94, 3) := by decide +kernel
theorem dX6_head_13 : decode cX6_head 13 = .ok (.ifCond .eq 7, 3) := by decide +kernel
theorem dX6_head_16 : decode cX6_head 16 = .ok (.iconst 0, 1) := by decide +kernel
theorem dX6_head_17 : decode cX6_head 17 = .ok (.goto 4, 3) := by decide +kernel
theorem dX6_head_20 : decode cX6_head 20 = .ok (.iconst 1, 1) := by decide +kernel
theorem dX6_head_21 : decode cX6_head 21 = .ok (.invokevirtual 120, 3) := by decide +kernel
theorem dX6_head_24 : decode cX6_head 24 = .ok (.ifCond .eq 7, 3) := by decide +kernel
theorem dX6_head_27 : decode cX6_head 27 = .ok (.iconst 0, 1) := by decide +kernel
theorem dX6_head_28 : decode cX6_head 28 = .ok (.goto 13, 3) := by decide +kernel
theorem dX6_head_31 : decode cX6_head 31 = .ok (.aload_n 0, 1) := by decide +kernel
theorem dX6_head_32 : decode cX6_head 32 = .ok (.getfield 35, 3) := by decide +kernel
theorem dX6_head_35 : decode cX6_head 35 = .ok (.iconst 4, 1) := by decide +kernel
theorem dX6_head_36 : decode cX6_head 36 = .ok (.iload_n 2, 1) := by decide +kernel
theorem dX6_head_37 : decode cX6_head 37 = .ok (.imul, 1) := by decide +kernel
theorem dX6_head_38 : decode cX6_head 38 = .ok (.iload_n 1, 1) := by decide +kernel
theorem dX6_head_39 : decode cX6_head 39 = .ok (.iadd, 1) := by decide +kernel
theorem dX6_head_40 : decode cX6_head 40 = .ok (.iaload, 1) := by decide +kernel
theorem dX6_head_41 : decode cX6_head 41 = .ok (.ireturn, 1) := by decide +kernel
theorem dX6_parent_0 : decode cX6_parent 0 = .ok (.aload_n 0, 1) := by decide +kernel
theorem dX6_parent_1 : decode cX6_parent 1 = .ok (.aload_n 0, 1) := by decide +kernel
theorem dX6_parent_2 : decode cX6_parent 2 = .ok (.iload_n 1, 1) := by decide +kernel
theorem dX6_parent_3 : decode cX6_parent 3 = .ok (.iload_n 2, 1) := by decide +kernel
theorem dX6_parent_4 : decode cX6_parent 4 = .ok (.invokevirtual 149, 3) := by decide +kernel
theorem dX6_parent_7 : decode cX6_parent 7 = .ok (.ifCond .eq 7, 3) := by decide +kernel
theorem dX6_parent_10 : decode cX6_parent 10 = .ok (.iconst 0, 1) := by decide +kernel
theorem dX6_parent_11 : decode cX6_parent 11 = .ok (.goto 4, 3) := by decide +kernel
theorem dX6_parent_14 : decode cX6_parent 14 = .ok (.iconst 1, 1) := by decide +kernel
theorem dX6_parent_15 : decode cX6_parent 15 = .ok (.invokevirtual 120, 3) := by decide +kernel
theorem dX6_parent_18 : decode cX6_parent 18 = .ok (.ifCond .eq 7, 3) := by decide +kernel
theorem dX6_parent_21 : decode cX6_parent 21 = .ok (.iconst 0, 1) := by decide +kernel
theorem dX6_parent_22 : decode cX6_parent 22 = .ok (.goto 14, 3) := by decide +kernel
theorem dX6_parent_25 : decode cX6_parent 25 = .ok (.aload_n 0, 1) := by decide +kernel
theorem dX6_parent_26 : decode cX6_parent 26 = .ok (.getfield 13, 3) := by decide +kernel
theorem dX6_parent_29 : decode cX6_parent 29 = .ok (.bipush 16, 2) := by decide +kernel
theorem dX6_parent_31 : decode cX6_parent 31 = .ok (.iload_n 1, 1) := by decide +kernel
theorem dX6_parent_32 : decode cX6_parent 32 = .ok (.imul, 1) := by decide +kernel
theorem dX6_parent_33 : decode cX6_parent 33 = .ok (.iload_n 2, 1) := by decide +kernel
theorem dX6_parent_34 : decode cX6_parent 34 = .ok (.iadd, 1) := by decide +kernel
theorem dX6_parent_35 : decode cX6_parent 35 = .ok (.iaload, 1) := by decide +kernel
theorem dX6_parent_36 : decode cX6_parent 36 = .ok (.ireturn, 1) := by decide +kernel
theorem dX6_noTask_0 : decode cX6_noTask 0 = .ok (.aload_n 0, 1) := by decide +kernel
theorem dX6_noTask_1 : decode cX6_noTask 1 = .ok (.aload_n 0, 1) := by decide +kernel
theorem dX6_noTask_2 : decode cX6_noTask 2 = .ok (.iload_n 1, 1) := by decide +kernel
theorem dX6_noTask_3 : decode cX6_noTask 3 = .ok (.iload_n 2, 1) := by decide +kernel
theorem dX6_noTask_4 : decode cX6_noTask 4 = .ok (.invokevirtual 149, 3) := by decide +kernel
theorem dX6_noTask_7 : decode cX6_noTask 7 = .ok (.ifCond .eq 14, 3) := by decide +kernel
theorem dX6_noTask_10 : decode cX6_noTask 10 = .ok (.iload_n 3, 1) := by decide +kernel
theorem dX6_noTask_11 : decode cX6_noTask 11 = .ok (.invokestatic 130, 3) := by decide +kernel
theorem dX6_noTask_14 : decode cX6_noTask 14 = .ok (.ifCond .eq 7, 3) := by decide +kernel
theorem dX6_noTask_17 : decode cX6_noTask 17 = .ok (.iconst 0, 1) := by decide +kernel
theorem dX6_noTask_18 : decode cX6_noTask 18 = .ok (.goto 4, 3) := by decide +kernel
theorem dX6_noTask_21 : decode cX6_noTask 21 = .ok (.iconst 1, 1) := by decide +kernel
theorem dX6_noTask_22 : decode cX6_noTask 22 = .ok (.invokevirtual 120, 3) := by decide +kernel
theorem dX6_noTask_25 : decode cX6_noTask 25 = .ok (.ireturn, 1) := by decide +kernel
theorem dX6_kindOf_0 : decode cX6_kindOf 0 = .ok (.aload_n 0, 1) := by decide +kernel
theorem dX6_kindOf_1 : decode cX6_kindOf 1 = .ok (.iload_n 1, 1) := by decide +kernel
theorem dX6_kindOf_2 : decode cX6_kindOf 2 = .ok (.iload_n 2, 1) := by decide +kernel
theorem dX6_kindOf_3 : decode cX6_kindOf 3 = .ok (.iload_n 3, 1) := by decide +kernel
theorem dX6_kindOf_4 : decode cX6_kindOf 4 = .ok (.invokevirtual 168, 3) := by decide +kernel
theorem dX6_kindOf_7 : decode cX6_kindOf 7 = .ok (.ifCond .eq 5, 3) := by decide +kernel
theorem dX6_kindOf_10 : decode cX6_kindOf 10 = .ok (.iconst 0, 1) := by decide +kernel
theorem dX6_kindOf_11 : decode cX6_kindOf 11 = .ok (.ireturn, 1) := by decide +kernel
theorem dX6_kindOf_12 : decode cX6_kindOf 12 = .ok (.aload_n 0, 1) := by decide +kernel
theorem dX6_kindOf_13 : decode cX6_kindOf 13 = .ok (.iload_n 1, 1) := by decide +kernel
theorem dX6_kindOf_14 : decode cX6_kindOf 14 = .ok (.iload_n 2, 1) := by decide +kernel
theorem dX6_kindOf_15 : decode cX6_kindOf 15 = .ok (.iload_n 3, 1) := by decide +kernel
theorem dX6_kindOf_16 : decode cX6_kindOf 16 = .ok (.invokevirtual 146, 3) := by decide +kernel
theorem dX6_kindOf_19 : decode cX6_kindOf 19 = .ok (.istore 4, 2) := by decide +kernel
theorem dX6_kindOf_21 : decode cX6_kindOf 21 = .ok (.iload 4, 2) := by decide +kernel
theorem dX6_kindOf_23 : decode cX6_kindOf 23 = .ok (.iconst (-1), 1) := by decide +kernel
theorem dX6_kindOf_24 : decode cX6_kindOf 24 = .ok (.if_icmp .ne 7, 3) := by decide +kernel
theorem dX6_kindOf_27 : decode cX6_kindOf 27 = .ok (.iconst (-1), 1) := by decide +kernel
theorem dX6_kindOf_28 : decode cX6_kindOf 28 = .ok (.goto 10, 3) := by decide +kernel
theorem dX6_kindOf_31 : decode cX6_kindOf 31 = .ok (.aload_n 0, 1) := by decide +kernel
theorem dX6_kindOf_32 : decode cX6_kindOf 32 = .ok (.getfield 23, 3) := by decide +kernel
theorem dX6_kindOf_35 : decode cX6_kindOf 35 = .ok (.iload 4, 2) := by decide +kernel
theorem dX6_kindOf_37 : decode cX6_kindOf 37 = .ok (.iaload, 1) := by decide +kernel
theorem dX6_kindOf_38 : decode cX6_kindOf 38 = .ok (.ireturn, 1) := by decide +kernel
theorem dX6_toldIn_0 : decode cX6_toldIn 0 = .ok (.aload_n 0, 1) := by decide +kernel
theorem dX6_toldIn_1 : decode cX6_toldIn 1 = .ok (.iload_n 1, 1) := by decide +kernel
theorem dX6_toldIn_2 : decode cX6_toldIn 2 = .ok (.iload_n 2, 1) := by decide +kernel
theorem dX6_toldIn_3 : decode cX6_toldIn 3 = .ok (.iload_n 3, 1) := by decide +kernel
theorem dX6_toldIn_4 : decode cX6_toldIn 4 = .ok (.invokevirtual 168, 3) := by decide +kernel
theorem dX6_toldIn_7 : decode cX6_toldIn 7 = .ok (.ifCond .eq 5, 3) := by decide +kernel
theorem dX6_toldIn_10 : decode cX6_toldIn 10 = .ok (.iconst 0, 1) := by decide +kernel
theorem dX6_toldIn_11 : decode cX6_toldIn 11 = .ok (.ireturn, 1) := by decide +kernel
theorem dX6_toldIn_12 : decode cX6_toldIn 12 = .ok (.aload_n 0, 1) := by decide +kernel
theorem dX6_toldIn_13 : decode cX6_toldIn 13 = .ok (.iload_n 1, 1) := by decide +kernel
theorem dX6_toldIn_14 : decode cX6_toldIn 14 = .ok (.iload_n 2, 1) := by decide +kernel
theorem dX6_toldIn_15 : decode cX6_toldIn 15 = .ok (.iload_n 3, 1) := by decide +kernel
theorem dX6_toldIn_16 : decode cX6_toldIn 16 = .ok (.invokevirtual 107, 3) := by decide +kernel
theorem dX6_toldIn_19 : decode cX6_toldIn 19 = .ok (.istore 4, 2) := by decide +kernel
theorem dX6_toldIn_21 : decode cX6_toldIn 21 = .ok (.iload 4, 2) := by decide +kernel
theorem dX6_toldIn_23 : decode cX6_toldIn 23 = .ok (.iconst (-1), 1) := by decide +kernel
theorem dX6_toldIn_24 : decode cX6_toldIn 24 = .ok (.if_icmp .ne 7, 3) := by decide +kernel
theorem dX6_toldIn_27 : decode cX6_toldIn 27 = .ok (.iconst (-1), 1) := by decide +kernel
theorem dX6_toldIn_28 : decode cX6_toldIn 28 = .ok (.goto 10, 3) := by decide +kernel
theorem dX6_toldIn_31 : decode cX6_toldIn 31 = .ok (.iload 4, 2) := by decide +kernel
theorem dX6_toldIn_33 : decode cX6_toldIn 33 = .ok (.iconst 5, 1) := by decide +kernel
theorem dX6_toldIn_34 : decode cX6_toldIn 34 = .ok (.idiv, 1) := by decide +kernel
theorem dX6_toldIn_35 : decode cX6_toldIn 35 = .ok (.bipush 16, 2) := by decide +kernel
theorem dX6_toldIn_37 : decode cX6_toldIn 37 = .ok (.irem, 1) := by decide +kernel
theorem dX6_toldIn_38 : decode cX6_toldIn 38 = .ok (.ireturn, 1) := by decide +kernel
theorem dX6_points_0 : decode cX6_points 0 = .ok (.aload_n 0, 1) := by decide +kernel
theorem dX6_points_1 : decode cX6_points 1 = .ok (.aload_n 0, 1) := by decide +kernel
theorem dX6_points_2 : decode cX6_points 2 = .ok (.iload_n 1, 1) := by decide +kernel
theorem dX6_points_3 : decode cX6_points 3 = .ok (.iload_n 2, 1) := by decide +kernel
theorem dX6_points_4 : decode cX6_points 4 = .ok (.invokevirtual 149, 3) := by decide +kernel
theorem dX6_points_7 : decode cX6_points 7 = .ok (.ifCond .eq 7, 3) := by decide +kernel
theorem dX6_points_10 : decode cX6_points 10 = .ok (.iconst 0, 1) := by decide +kernel
theorem dX6_points_11 : decode cX6_points 11 = .ok (.goto 4, 3) := by decide +kernel
theorem dX6_points_14 : decode cX6_points 14 = .ok (.iconst 1, 1) := by decide +kernel
theorem dX6_points_15 : decode cX6_points 15 = .ok (.invokevirtual 120, 3) := by decide +kernel
theorem dX6_points_18 : decode cX6_points 18 = .ok (.ifCond .eq 5, 3) := by decide +kernel
theorem dX6_points_21 : decode cX6_points 21 = .ok (.iconst 0, 1) := by decide +kernel
theorem dX6_points_22 : decode cX6_points 22 = .ok (.ireturn, 1) := by decide +kernel
theorem dX6_points_23 : decode cX6_points 23 = .ok (.iconst 0, 1) := by decide +kernel
theorem dX6_points_24 : decode cX6_points 24 = .ok (.istore_n 3, 1) := by decide +kernel
theorem dX6_points_25 : decode cX6_points 25 = .ok (.iconst 0, 1) := by decide +kernel
theorem dX6_points_26 : decode cX6_points 26 = .ok (.istore 4, 2) := by decide +kernel
theorem dX6_points_28 : decode cX6_points 28 = .ok (.iload 4, 2) := by decide +kernel
theorem dX6_points_30 : decode cX6_points 30 = .ok (.iconst 5, 1) := by decide +kernel
theorem dX6_points_31 : decode cX6_points 31 = .ok (.if_icmp .ge 39, 3) := by decide +kernel
theorem dX6_points_34 : decode cX6_points 34 = .ok (.aload_n 0, 1) := by decide +kernel
theorem dX6_points_35 : decode cX6_points 35 = .ok (.iload_n 1, 1) := by decide +kernel
theorem dX6_points_36 : decode cX6_points 36 = .ok (.iload_n 2, 1) := by decide +kernel
theorem dX6_points_37 : decode cX6_points 37 = .ok (.iload 4, 2) := by decide +kernel
theorem dX6_points_39 : decode cX6_points 39 = .ok (.invokevirtual 146, 3) := by decide +kernel
theorem dX6_points_42 : decode cX6_points 42 = .ok (.istore 5, 2) := by decide +kernel
theorem dX6_points_44 : decode cX6_points 44 = .ok (.iload_n 3, 1) := by decide +kernel
theorem dX6_points_45 : decode cX6_points 45 = .ok (.iload 5, 2) := by decide +kernel
theorem dX6_points_47 : decode cX6_points 47 = .ok (.iconst (-1), 1) := by decide +kernel
theorem dX6_points_48 : decode cX6_points 48 = .ok (.if_icmp .ne 7, 3) := by decide +kernel
theorem dX6_points_51 : decode cX6_points 51 = .ok (.iconst 0, 1) := by decide +kernel
theorem dX6_points_52 : decode cX6_points 52 = .ok (.goto 10, 3) := by decide +kernel
theorem dX6_points_55 : decode cX6_points 55 = .ok (.aload_n 0, 1) := by decide +kernel
theorem dX6_points_56 : decode cX6_points 56 = .ok (.getfield 26, 3) := by decide +kernel
theorem dX6_points_59 : decode cX6_points 59 = .ok (.iload 5, 2) := by decide +kernel
theorem dX6_points_61 : decode cX6_points 61 = .ok (.iaload, 1) := by decide +kernel
theorem dX6_points_62 : decode cX6_points 62 = .ok (.iadd, 1) := by decide +kernel
theorem dX6_points_63 : decode cX6_points 63 = .ok (.istore_n 3, 1) := by decide +kernel
theorem dX6_points_64 : decode cX6_points 64 = .ok (.iinc 4 1, 3) := by decide +kernel
theorem dX6_points_67 : decode cX6_points 67 = .ok (.goto (-39), 3) := by decide +kernel
theorem dX6_points_70 : decode cX6_points 70 = .ok (.iload_n 3, 1) := by decide +kernel
theorem dX6_points_71 : decode cX6_points 71 = .ok (.ireturn, 1) := by decide +kernel
theorem dX6_bits_0 : decode cX6_bits 0 = .ok (.iconst 0, 1) := by decide +kernel
theorem dX6_bits_1 : decode cX6_bits 1 = .ok (.istore_n 1, 1) := by decide +kernel
theorem dX6_bits_2 : decode cX6_bits 2 = .ok (.iload_n 0, 1) := by decide +kernel
theorem dX6_bits_3 : decode cX6_bits 3 = .ok (.istore_n 2, 1) := by decide +kernel
theorem dX6_bits_4 : decode cX6_bits 4 = .ok (.iload_n 2, 1) := by decide +kernel
theorem dX6_bits_5 : decode cX6_bits 5 = .ok (.ifCond .eq 15, 3) := by decide +kernel
theorem dX6_bits_8 : decode cX6_bits 8 = .ok (.iinc 1 1, 3) := by decide +kernel
theorem dX6_bits_11 : decode cX6_bits 11 = .ok (.iload_n 2, 1) := by decide +kernel
theorem dX6_bits_12 : decode cX6_bits 12 = .ok (.iload_n 2, 1) := by decide +kernel
theorem dX6_bits_13 : decode cX6_bits 13 = .ok (.iconst 1, 1) := by decide +kernel
theorem dX6_bits_14 : decode cX6_bits 14 = .ok (.isub, 1) := by decide +kernel
theorem dX6_bits_15 : decode cX6_bits 15 = .ok (.iand, 1) := by decide +kernel
theorem dX6_bits_16 : decode cX6_bits 16 = .ok (.istore_n 2, 1) := by decide +kernel
theorem dX6_bits_17 : decode cX6_bits 17 = .ok (.goto (-13), 3) := by decide +kernel
theorem dX6_bits_20 : decode cX6_bits 20 = .ok (.iload_n 1, 1) := by decide +kernel
theorem dX6_bits_21 : decode cX6_bits 21 = .ok (.ireturn, 1) := by decide +kernel
theorem dX6_common_0 : decode cX6_common 0 = .ok (.iload_n 1, 1) := by decide +kernel
theorem dX6_common_1 : decode cX6_common 1 = .ok (.invokestatic 103, 3) := by decide +kernel
theorem dX6_common_4 : decode cX6_common 4 = .ok (.istore_n 3, 1) := by decide +kernel
theorem dX6_common_5 : decode cX6_common 5 = .ok (.iconst 0, 1) := by decide +kernel
theorem dX6_common_6 : decode cX6_common 6 = .ok (.istore 4, 2) := by decide +kernel
theorem dX6_common_8 : decode cX6_common 8 = .ok (.iload 4, 2) := by decide +kernel
theorem dX6_common_10 : decode cX6_common 10 = .ok (.iload_n 3, 1) := by decide +kernel
theorem dX6_common_11 : decode cX6_common 11 = .ok (.if_icmp .gt 17, 3) := by decide +kernel
theorem dX6_common_14 : decode cX6_common 14 = .ok (.aload_n 0, 1) := by decide +kernel
theorem dX6_common_15 : decode cX6_common 15 = .ok (.getfield 71, 3) := by decide +kernel
theorem dX6_common_18 : decode cX6_common 18 = .ok (.iload 4, 2) := by decide +kernel
theorem dX6_common_20 : decode cX6_common 20 = .ok (.iconst 0, 1) := by decide +kernel
theorem dX6_common_21 : decode cX6_common 21 = .ok (.iastore, 1) := by decide +kernel
theorem dX6_common_22 : decode cX6_common 22 = .ok (.iinc 4 1, 3) := by decide +kernel
theorem dX6_common_25 : decode cX6_common 25 = .ok (.goto (-17), 3) := by decide +kernel
theorem dX6_common_28 : decode cX6_common 28 = .ok (.iconst 0, 1) := by decide +kernel
theorem dX6_common_29 : decode cX6_common 29 = .ok (.istore 4, 2) := by decide +kernel
theorem dX6_common_31 : decode cX6_common 31 = .ok (.iload 4, 2) := by decide +kernel
theorem dX6_common_33 : decode cX6_common 33 = .ok (.aload_n 0, 1) := by decide +kernel
theorem dX6_common_34 : decode cX6_common 34 = .ok (.getfield 65, 3) := by decide +kernel
theorem dX6_common_37 : decode cX6_common 37 = .ok (.iload_n 2, 1) := by decide +kernel
theorem dX6_common_38 : decode cX6_common 38 = .ok (.iaload, 1) := by decide +kernel
theorem dX6_common_39 : decode cX6_common 39 = .ok (.if_icmp .ge 109, 3) := by decide +kernel
theorem dX6_common_42 : decode cX6_common 42 = .ok (.iconst 0, 1) := by decide +kernel
theorem dX6_common_43 : decode cX6_common 43 = .ok (.istore 5, 2) := by decide +kernel
theorem dX6_common_45 : decode cX6_common 45 = .ok (.iconst 1, 1) := by decide +kernel
theorem dX6_common_46 : decode cX6_common 46 = .ok (.istore 6, 2) := by decide +kernel
theorem dX6_common_48 : decode cX6_common 48 = .ok (.iload 6, 2) := by decide +kernel
theorem dX6_common_50 : decode cX6_common 50 = .ok (.iload_n 3, 1) := by decide +kernel
theorem dX6_common_51 : decode cX6_common 51 = .ok (.if_icmp .gt 91, 3) := by decide +kernel
theorem dX6_common_54 : decode cX6_common 54 = .ok (.aload_n 0, 1) := by decide +kernel
theorem dX6_common_55 : decode cX6_common 55 = .ok (.getfield 71, 3) := by decide +kernel
theorem dX6_common_58 : decode cX6_common 58 = .ok (.iload 6, 2) := by decide +kernel
theorem dX6_common_60 : decode cX6_common 60 = .ok (.iaload, 1) := by decide +kernel
theorem dX6_common_61 : decode cX6_common 61 = .ok (.istore 7, 2) := by decide +kernel
theorem dX6_common_63 : decode cX6_common 63 = .ok (.iload 7, 2) := by decide +kernel
theorem dX6_common_65 : decode cX6_common 65 = .ok (.aload_n 0, 1) := by decide +kernel
theorem dX6_common_66 : decode cX6_common 66 = .ok (.getfield 71, 3) := by decide +kernel
theorem dX6_common_69 : decode cX6_common 69 = .ok (.iload 6, 2) := by decide +kernel
theorem dX6_common_71 : decode cX6_common 71 = .ok (.iconst 1, 1) := by decide +kernel
theorem dX6_common_72 : decode cX6_common 72 = .ok (.isub, 1) := by decide +kernel
theorem dX6_common_73 : decode cX6_common 73 = .ok (.iaload, 1) := by decide +kernel
theorem dX6_common_74 : decode cX6_common 74 = .ok (.if_icmp .le 8, 3) := by decide +kernel
theorem dX6_common_77 : decode cX6_common 77 = .ok (.iload 7, 2) := by decide +kernel
theorem dX6_common_79 : decode cX6_common 79 = .ok (.goto 12, 3) := by decide +kernel
theorem dX6_common_82 : decode cX6_common 82 = .ok (.aload_n 0, 1) := by decide +kernel
theorem dX6_common_83 : decode cX6_common 83 = .ok (.getfield 71, 3) := by decide +kernel
theorem dX6_common_86 : decode cX6_common 86 = .ok (.iload 6, 2) := by decide +kernel
theorem dX6_common_88 : decode cX6_common 88 = .ok (.iconst 1, 1) := by decide +kernel
theorem dX6_common_89 : decode cX6_common 89 = .ok (.isub, 1) := by decide +kernel
theorem dX6_common_90 : decode cX6_common 90 = .ok (.iaload, 1) := by decide +kernel
theorem dX6_common_91 : decode cX6_common 91 = .ok (.istore 8, 2) := by decide +kernel
theorem dX6_common_93 : decode cX6_common 93 = .ok (.aload_n 0, 1) := by decide +kernel
theorem dX6_common_94 : decode cX6_common 94 = .ok (.getfield 71, 3) := by decide +kernel
theorem dX6_common_97 : decode cX6_common 97 = .ok (.iload 6, 2) := by decide +kernel
theorem dX6_common_99 : decode cX6_common 99 = .ok (.iload_n 1, 1) := by decide +kernel
theorem dX6_common_100 : decode cX6_common 100 = .ok (.iload 6, 2) := by decide +kernel
theorem dX6_common_102 : decode cX6_common 102 = .ok (.iconst 1, 1) := by decide +kernel
theorem dX6_common_103 : decode cX6_common 103 = .ok (.isub, 1) := by decide +kernel
theorem dX6_common_104 : decode cX6_common 104 = .ok (.invokestatic 98, 3) := by decide +kernel
theorem dX6_common_107 : decode cX6_common 107 = .ok (.aload_n 0, 1) := by decide +kernel
theorem dX6_common_108 : decode cX6_common 108 = .ok (.getfield 68, 3) := by decide +kernel
theorem dX6_common_111 : decode cX6_common 111 = .ok (.bipush 12, 2) := by decide +kernel
theorem dX6_common_113 : decode cX6_common 113 = .ok (.iload_n 2, 1) := by decide +kernel
theorem dX6_common_114 : decode cX6_common 114 = .ok (.imul, 1) := by decide +kernel
theorem dX6_common_115 : decode cX6_common 115 = .ok (.iload 4, 2) := by decide +kernel
theorem dX6_common_117 : decode cX6_common 117 = .ok (.iadd, 1) := by decide +kernel
theorem dX6_common_118 : decode cX6_common 118 = .ok (.iaload, 1) := by decide +kernel
theorem dX6_common_119 : decode cX6_common 119 = .ok (.if_icmp .ne 10, 3) := by decide +kernel
theorem dX6_common_122 : decode cX6_common 122 = .ok (.iload 5, 2) := by decide +kernel
theorem dX6_common_124 : decode cX6_common 124 = .ok (.iconst 1, 1) := by decide +kernel
theorem dX6_common_125 : decode cX6_common 125 = .ok (.iadd, 1) := by decide +kernel
theorem dX6_common_126 : decode cX6_common 126 = .ok (.goto 5, 3) := by decide +kernel
theorem dX6_common_129 : decode cX6_common 129 = .ok (.iload 8, 2) := by decide +kernel
theorem dX6_common_131 : decode cX6_common 131 = .ok (.iastore, 1) := by decide +kernel
theorem dX6_common_132 : decode cX6_common 132 = .ok (.iload 7, 2) := by decide +kernel
theorem dX6_common_134 : decode cX6_common 134 = .ok (.istore 5, 2) := by decide +kernel
theorem dX6_common_136 : decode cX6_common 136 = .ok (.iinc 6 1, 3) := by decide +kernel
theorem dX6_common_139 : decode cX6_common 139 = .ok (.goto (-91), 3) := by decide +kernel
theorem dX6_common_142 : decode cX6_common 142 = .ok (.iinc 4 1, 3) := by decide +kernel
theorem dX6_common_145 : decode cX6_common 145 = .ok (.goto (-114), 3) := by decide +kernel
theorem dX6_common_148 : decode cX6_common 148 = .ok (.aload_n 0, 1) := by decide +kernel
theorem dX6_common_149 : decode cX6_common 149 = .ok (.getfield 71, 3) := by decide +kernel
theorem dX6_common_152 : decode cX6_common 152 = .ok (.iload_n 3, 1) := by decide +kernel
theorem dX6_common_153 : decode cX6_common 153 = .ok (.iaload, 1) := by decide +kernel
theorem dX6_common_154 : decode cX6_common 154 = .ok (.ireturn, 1) := by decide +kernel
theorem dX6_gained_0 : decode cX6_gained 0 = .ok (.aload_n 0, 1) := by decide +kernel
theorem dX6_gained_1 : decode cX6_gained 1 = .ok (.getfield 26, 3) := by decide +kernel
theorem dX6_gained_4 : decode cX6_gained 4 = .ok (.iload_n 1, 1) := by decide +kernel
theorem dX6_gained_5 : decode cX6_gained 5 = .ok (.iaload, 1) := by decide +kernel
theorem dX6_gained_6 : decode cX6_gained 6 = .ok (.istore_n 3, 1) := by decide +kernel
theorem dX6_gained_7 : decode cX6_gained 7 = .ok (.aload_n 0, 1) := by decide +kernel
theorem dX6_gained_8 : decode cX6_gained 8 = .ok (.getfield 23, 3) := by decide +kernel
theorem dX6_gained_11 : decode cX6_gained 11 = .ok (.iload_n 1, 1) := by decide +kernel
theorem dX6_gained_12 : decode cX6_gained 12 = .ok (.iaload, 1) := by decide +kernel
theorem dX6_gained_13 : decode cX6_gained 13 = .ok (.ifCond .ne 54, 3) := by decide +kernel
theorem dX6_gained_16 : decode cX6_gained 16 = .ok (.aload_n 0, 1) := by decide +kernel
theorem dX6_gained_17 : decode cX6_gained 17 = .ok (.getfield 59, 3) := by decide +kernel
theorem dX6_gained_20 : decode cX6_gained 20 = .ok (.iload_n 2, 1) := by decide +kernel
theorem dX6_gained_21 : decode cX6_gained 21 = .ok (.iaload, 1) := by decide +kernel
theorem dX6_gained_22 : decode cX6_gained 22 = .ok (.aload_n 0, 1) := by decide +kernel
theorem dX6_gained_23 : decode cX6_gained 23 = .ok (.getfield 29, 3) := by decide +kernel
theorem dX6_gained_26 : decode cX6_gained 26 = .ok (.iload_n 1, 1) := by decide +kernel
theorem dX6_gained_27 : decode cX6_gained 27 = .ok (.iaload, 1) := by decide +kernel
theorem dX6_gained_28 : decode cX6_gained 28 = .ok (.isub, 1) := by decide +kernel
theorem dX6_gained_29 : decode cX6_gained 29 = .ok (.istore 4, 2) := by decide +kernel
theorem dX6_gained_31 : decode cX6_gained 31 = .ok (.aload_n 0, 1) := by decide +kernel
theorem dX6_gained_32 : decode cX6_gained 32 = .ok (.getfield 56, 3) := by decide +kernel
theorem dX6_gained_35 : decode cX6_gained 35 = .ok (.iload_n 2, 1) := by decide +kernel
theorem dX6_gained_36 : decode cX6_gained 36 = .ok (.baload, 1) := by decide +kernel
theorem dX6_gained_37 : decode cX6_gained 37 = .ok (.ifCond .eq 28, 3) := by decide +kernel
theorem dX6_gained_40 : decode cX6_gained 40 = .ok (.iload 4, 2) := by decide +kernel
theorem dX6_gained_42 : decode cX6_gained 42 = .ok (.aload_n 0, 1) := by decide +kernel
theorem dX6_gained_43 : decode cX6_gained 43 = .ok (.getfield 32, 3) := by decide +kernel
theorem dX6_gained_46 : decode cX6_gained 46 = .ok (.iload_n 1, 1) := by decide +kernel
theorem dX6_gained_47 : decode cX6_gained 47 = .ok (.iaload, 1) := by decide +kernel
theorem dX6_gained_48 : decode cX6_gained 48 = .ok (.ineg, 1) := by decide +kernel
theorem dX6_gained_49 : decode cX6_gained 49 = .ok (.aload_n 0, 1) := by decide +kernel
theorem dX6_gained_50 : decode cX6_gained 50 = .ok (.getfield 32, 3) := by decide +kernel
theorem dX6_gained_53 : decode cX6_gained 53 = .ok (.iload_n 1, 1) := by decide +kernel
theorem dX6_gained_54 : decode cX6_gained 54 = .ok (.iaload, 1) := by decide +kernel
theorem dX6_gained_55 : decode cX6_gained 55 = .ok (.invokestatic 87, 3) := by decide +kernel
theorem dX6_gained_58 : decode cX6_gained 58 = .ok (.ifCond .eq 7, 3) := by decide +kernel
theorem dX6_gained_61 : decode cX6_gained 61 = .ok (.iload_n 3, 1) := by decide +kernel
theorem dX6_gained_62 : decode cX6_gained 62 = .ok (.goto 4, 3) := by decide +kernel
theorem dX6_gained_65 : decode cX6_gained 65 = .ok (.iconst 0, 1) := by decide +kernel
theorem dX6_gained_66 : decode cX6_gained 66 = .ok (.ireturn, 1) := by decide +kernel
theorem dX6_gained_67 : decode cX6_gained 67 = .ok (.aload_n 0, 1) := by decide +kernel
theorem dX6_gained_68 : decode cX6_gained 68 = .ok (.getfield 23, 3) := by decide +kernel
theorem dX6_gained_71 : decode cX6_gained 71 = .ok (.iload_n 1, 1) := by decide +kernel
theorem dX6_gained_72 : decode cX6_gained 72 = .ok (.iaload, 1) := by decide +kernel
theorem dX6_gained_73 : decode cX6_gained 73 = .ok (.iconst 1, 1) := by decide +kernel
theorem dX6_gained_74 : decode cX6_gained 74 = .ok (.if_icmp .ne 82, 3) := by decide +kernel
theorem dX6_gained_77 : decode cX6_gained 77 = .ok (.aload_n 0, 1) := by decide +kernel
theorem dX6_gained_78 : decode cX6_gained 78 = .ok (.getfield 29, 3) := by decide +kernel
theorem dX6_gained_81 : decode cX6_gained 81 = .ok (.iload_n 1, 1) := by decide +kernel
theorem dX6_gained_82 : decode cX6_gained 82 = .ok (.iaload, 1) := by decide +kernel
theorem dX6_gained_83 : decode cX6_gained 83 = .ok (.istore 4, 2) := by decide +kernel
theorem dX6_gained_85 : decode cX6_gained 85 = .ok (.aload_n 0, 1) := by decide +kernel
theorem dX6_gained_86 : decode cX6_gained 86 = .ok (.getfield 62, 3) := by decide +kernel
theorem dX6_gained_89 : decode cX6_gained 89 = .ok (.iload_n 2, 1) := by decide +kernel
theorem dX6_gained_90 : decode cX6_gained 90 = .ok (.iaload, 1) := by decide +kernel
theorem dX6_gained_91 : decode cX6_gained 91 = .ok (.iload 4, 2) := by decide +kernel
theorem dX6_gained_93 : decode cX6_gained 93 = .ok (.iand, 1) := by decide +kernel
theorem dX6_gained_94 : decode cX6_gained 94 = .ok (.invokestatic 171, 3) := by decide +kernel
theorem dX6_gained_97 : decode cX6_gained 97 = .ok (.aload_n 0, 1) := by decide +kernel
theorem dX6_gained_98 : decode cX6_gained 98 = .ok (.getfield 62, 3) := by decide +kernel
theorem dX6_gained_101 : decode cX6_gained 101 = .ok (.iload_n 2, 1) := by decide +kernel
theorem dX6_gained_102 : decode cX6_gained 102 = .ok (.iaload, 1) := by decide +kernel
theorem dX6_gained_103 : decode cX6_gained 103 = .ok (.iload 4, 2) := by decide +kernel
theorem dX6_gained_105 : decode cX6_gained 105 = .ok (.iconst (-1), 1) := by decide +kernel
theorem dX6_gained_106 : decode cX6_gained 106 = .ok (.ixor, 1) := by decide +kernel
theorem dX6_gained_107 : decode cX6_gained 107 = .ok (.iand, 1) := by decide +kernel
theorem dX6_gained_108 : decode cX6_gained 108 = .ok (.invokestatic 171, 3) := by decide +kernel
theorem dX6_gained_111 : decode cX6_gained 111 = .ok (.isub, 1) := by decide +kernel
theorem dX6_gained_112 : decode cX6_gained 112 = .ok (.istore 5, 2) := by decide +kernel
theorem dX6_gained_114 : decode cX6_gained 114 = .ok (.iload 4, 2) := by decide +kernel
theorem dX6_gained_116 : decode cX6_gained 116 = .ok (.ifCond .ne 20, 3) := by decide +kernel
theorem dX6_gained_119 : decode cX6_gained 119 = .ok (.aload_n 0, 1) := by decide +kernel
theorem dX6_gained_120 : decode cX6_gained 120 = .ok (.getfield 62, 3) := by decide +kernel
theorem dX6_gained_123 : decode cX6_gained 123 = .ok (.iload_n 2, 1) := by decide +kernel
theorem dX6_gained_124 : decode cX6_gained 124 = .ok (.iaload, 1) := by decide +kernel
theorem dX6_gained_125 : decode cX6_gained 125 = .ok (.ifCond .ne 7, 3) := by decide +kernel
theorem dX6_gained_128 : decode cX6_gained 128 = .ok (.iload_n 3, 1) := by decide +kernel
theorem dX6_gained_129 : decode cX6_gained 129 = .ok (.goto 26, 3) := by decide +kernel
theorem dX6_gained_132 : decode cX6_gained 132 = .ok (.iconst 0, 1) := by decide +kernel
theorem dX6_gained_133 : decode cX6_gained 133 = .ok (.goto 22, 3) := by decide +kernel
theorem dX6_gained_136 : decode cX6_gained 136 = .ok (.iload 5, 2) := by decide +kernel
theorem dX6_gained_138 : decode cX6_gained 138 = .ok (.ifCond .le 16, 3) := by decide +kernel
theorem dX6_gained_141 : decode cX6_gained 141 = .ok (.iload_n 3, 1) := by decide +kernel
theorem dX6_gained_142 : decode cX6_gained 142 = .ok (.iload 5, 2) := by decide +kernel
theorem dX6_gained_144 : decode cX6_gained 144 = .ok (.imul, 1) := by decide +kernel
theorem dX6_gained_145 : decode cX6_gained 145 = .ok (.iload 4, 2) := by decide +kernel
theorem dX6_gained_147 : decode cX6_gained 147 = .ok (.invokestatic 171, 3) := by decide +kernel
theorem dX6_gained_150 : decode cX6_gained 150 = .ok (.idiv, 1) := by decide +kernel
theorem dX6_gained_151 : decode cX6_gained 151 = .ok (.goto 4, 3) := by decide +kernel
theorem dX6_gained_154 : decode cX6_gained 154 = .ok (.iconst 0, 1) := by decide +kernel
theorem dX6_gained_155 : decode cX6_gained 155 = .ok (.ireturn, 1) := by decide +kernel
theorem dX6_gained_156 : decode cX6_gained 156 = .ok (.iload_n 3, 1) := by decide +kernel
theorem dX6_gained_157 : decode cX6_gained 157 = .ok (.aload_n 0, 1) := by decide +kernel
theorem dX6_gained_158 : decode cX6_gained 158 = .ok (.aload_n 0, 1) := by decide +kernel
theorem dX6_gained_159 : decode cX6_gained 159 = .ok (.getfield 29, 3) := by decide +kernel
theorem dX6_gained_162 : decode cX6_gained 162 = .ok (.iload_n 1, 1) := by decide +kernel
theorem dX6_gained_163 : decode cX6_gained 163 = .ok (.iaload, 1) := by decide +kernel
theorem dX6_gained_164 : decode cX6_gained 164 = .ok (.iload_n 2, 1) := by decide +kernel
theorem dX6_gained_165 : decode cX6_gained 165 = .ok (.invokevirtual 174, 3) := by decide +kernel
theorem dX6_gained_168 : decode cX6_gained 168 = .ok (.imul, 1) := by decide +kernel
theorem dX6_gained_169 : decode cX6_gained 169 = .ok (.aload_n 0, 1) := by decide +kernel
theorem dX6_gained_170 : decode cX6_gained 170 = .ok (.getfield 29, 3) := by decide +kernel
theorem dX6_gained_173 : decode cX6_gained 173 = .ok (.iload_n 1, 1) := by decide +kernel
theorem dX6_gained_174 : decode cX6_gained 174 = .ok (.iaload, 1) := by decide +kernel
theorem dX6_gained_175 : decode cX6_gained 175 = .ok (.invokestatic 103, 3) := by decide +kernel
theorem dX6_gained_178 : decode cX6_gained 178 = .ok (.idiv, 1) := by decide +kernel
theorem dX6_gained_179 : decode cX6_gained 179 = .ok (.ireturn, 1) := by decide +kernel
theorem dX6_dueOf_0 : decode cX6_dueOf 0 = .ok (.iconst 0, 1) := by decide +kernel
theorem dX6_dueOf_1 : decode cX6_dueOf 1 = .ok (.istore_n 2, 1) := by decide +kernel
theorem dX6_dueOf_2 : decode cX6_dueOf 2 = .ok (.iconst 0, 1) := by decide +kernel
theorem dX6_dueOf_3 : decode cX6_dueOf 3 = .ok (.istore_n 3, 1) := by decide +kernel
theorem dX6_dueOf_4 : decode cX6_dueOf 4 = .ok (.iload_n 3, 1) := by decide +kernel
theorem dX6_dueOf_5 : decode cX6_dueOf 5 = .ok (.iconst 5, 1) := by decide +kernel
theorem dX6_dueOf_6 : decode cX6_dueOf 6 = .ok (.if_icmp .ge 50, 3) := by decide +kernel
theorem dX6_dueOf_9 : decode cX6_dueOf 9 = .ok (.aload_n 0, 1) := by decide +kernel
theorem dX6_dueOf_10 : decode cX6_dueOf 10 = .ok (.iload_n 1, 1) := by decide +kernel
theorem dX6_dueOf_11 : decode cX6_dueOf 11 = .ok (.bipush 12, 2) := by decide +kernel
theorem dX6_dueOf_13 : decode cX6_dueOf 13 = .ok (.idiv, 1) := by decide +kernel
theorem dX6_dueOf_14 : decode cX6_dueOf 14 = .ok (.aload_n 0, 1) := by decide +kernel
theorem dX6_dueOf_15 : decode cX6_dueOf 15 = .ok (.getfield 47, 3) := by decide +kernel
theorem dX6_dueOf_18 : decode cX6_dueOf 18 = .ok (.iload_n 1, 1) := by decide +kernel
theorem dX6_dueOf_19 : decode cX6_dueOf 19 = .ok (.iaload, 1) := by decide +kernel
theorem dX6_dueOf_20 : decode cX6_dueOf 20 = .ok (.iload_n 3, 1) := by decide +kernel
theorem dX6_dueOf_21 : decode cX6_dueOf 21 = .ok (.invokevirtual 146, 3) := by decide +kernel
theorem dX6_dueOf_24 : decode cX6_dueOf 24 = .ok (.istore 4, 2) := by decide +kernel
theorem dX6_dueOf_26 : decode cX6_dueOf 26 = .ok (.iload_n 2, 1) := by decide +kernel
theorem dX6_dueOf_27 : decode cX6_dueOf 27 = .ok (.iload 4, 2) := by decide +kernel
theorem dX6_dueOf_29 : decode cX6_dueOf 29 = .ok (.iconst (-1), 1) := by decide +kernel
theorem dX6_dueOf_30 : decode cX6_dueOf 30 = .ok (.if_icmp .ne 7, 3) := by decide +kernel
theorem dX6_dueOf_33 : decode cX6_dueOf 33 = .ok (.iconst 0, 1) := by decide +kernel
theorem dX6_dueOf_34 : decode cX6_dueOf 34 = .ok (.goto 14, 3) := by decide +kernel
theorem dX6_dueOf_37 : decode cX6_dueOf 37 = .ok (.aload_n 0, 1) := by decide +kernel
theorem dX6_dueOf_38 : decode cX6_dueOf 38 = .ok (.iload 4, 2) := by decide +kernel
theorem dX6_dueOf_40 : decode cX6_dueOf 40 = .ok (.iconst 5, 1) := by decide +kernel
theorem dX6_dueOf_41 : decode cX6_dueOf 41 = .ok (.iload_n 1, 1) := by decide +kernel
theorem dX6_dueOf_42 : decode cX6_dueOf 42 = .ok (.imul, 1) := by decide +kernel
theorem dX6_dueOf_43 : decode cX6_dueOf 43 = .ok (.iload_n 3, 1) := by decide +kernel
theorem dX6_dueOf_44 : decode cX6_dueOf 44 = .ok (.iadd, 1) := by decide +kernel
theorem dX6_dueOf_45 : decode cX6_dueOf 45 = .ok (.invokevirtual 177, 3) := by decide +kernel
theorem dX6_dueOf_48 : decode cX6_dueOf 48 = .ok (.iadd, 1) := by decide +kernel
theorem dX6_dueOf_49 : decode cX6_dueOf 49 = .ok (.istore_n 2, 1) := by decide +kernel
theorem dX6_dueOf_50 : decode cX6_dueOf 50 = .ok (.iinc 3 1, 3) := by decide +kernel
theorem dX6_dueOf_53 : decode cX6_dueOf 53 = .ok (.goto (-49), 3) := by decide +kernel
theorem dX6_dueOf_56 : decode cX6_dueOf 56 = .ok (.iload_n 2, 1) := by decide +kernel
theorem dX6_dueOf_57 : decode cX6_dueOf 57 = .ok (.ireturn, 1) := by decide +kernel
theorem dX6_mended_0 : decode cX6_mended 0 = .ok (.aload_n 0, 1) := by decide +kernel
theorem dX6_mended_1 : decode cX6_mended 1 = .ok (.iload_n 1, 1) := by decide +kernel
theorem dX6_mended_2 : decode cX6_mended 2 = .ok (.iload_n 2, 1) := by decide +kernel
theorem dX6_mended_3 : decode cX6_mended 3 = .ok (.iload_n 3, 1) := by decide +kernel
theorem dX6_mended_4 : decode cX6_mended 4 = .ok (.invokevirtual 146, 3) := by decide +kernel
theorem dX6_mended_7 : decode cX6_mended 7 = .ok (.istore 5, 2) := by decide +kernel
theorem dX6_mended_9 : decode cX6_mended 9 = .ok (.iload 5, 2) := by decide +kernel
theorem dX6_mended_11 : decode cX6_mended 11 = .ok (.iconst (-1), 1) := by decide +kernel
theorem dX6_mended_12 : decode cX6_mended 12 = .ok (.if_icmp .eq 15, 3) := by decide +kernel
theorem dX6_mended_15 : decode cX6_mended 15 = .ok (.aload_n 0, 1) := by decide +kernel
theorem dX6_mended_16 : decode cX6_mended 16 = .ok (.getfield 23, 3) := by decide +kernel
theorem dX6_mended_19 : decode cX6_mended 19 = .ok (.iload 5, 2) := by decide +kernel
theorem dX6_mended_21 : decode cX6_mended 21 = .ok (.iaload, 1) := by decide +kernel
theorem dX6_mended_22 : decode cX6_mended 22 = .ok (.iload 4, 2) := by decide +kernel
theorem dX6_mended_24 : decode cX6_mended 24 = .ok (.if_icmp .eq 7, 3) := by decide +kernel
theorem dX6_mended_27 : decode cX6_mended 27 = .ok (.iconst (-1), 1) := by decide +kernel
theorem dX6_mended_28 : decode cX6_mended 28 = .ok (.goto 5, 3) := by decide +kernel
theorem dX6_mended_31 : decode cX6_mended 31 = .ok (.iload 5, 2) := by decide +kernel
theorem dX6_mended_33 : decode cX6_mended 33 = .ok (.ireturn, 1) := by decide +kernel
theorem dX6_isNamed_0 : decode cX6_isNamed 0 = .ok (.aload_n 0, 1) := by decide +kernel
theorem dX6_isNamed_1 : decode cX6_isNamed 1 = .ok (.iload_n 1, 1) := by decide +kernel
theorem dX6_isNamed_2 : decode cX6_isNamed 2 = .ok (.iload_n 2, 1) := by decide +kernel
theorem dX6_isNamed_3 : decode cX6_isNamed 3 = .ok (.invokevirtual 149, 3) := by decide +kernel
theorem dX6_isNamed_6 : decode cX6_isNamed 6 = .ok (.ifCond .eq 14, 3) := by decide +kernel
theorem dX6_isNamed_9 : decode cX6_isNamed 9 = .ok (.iload_n 3, 1) := by decide +kernel
theorem dX6_isNamed_10 : decode cX6_isNamed 10 = .ok (.invokestatic 130, 3) := by decide +kernel
theorem dX6_isNamed_13 : decode cX6_isNamed 13 = .ok (.ifCond .eq 7, 3) := by decide +kernel
theorem dX6_isNamed_16 : decode cX6_isNamed 16 = .ok (.iconst 1, 1) := by decide +kernel
theorem dX6_isNamed_17 : decode cX6_isNamed 17 = .ok (.goto 4, 3) := by decide +kernel
theorem dX6_isNamed_20 : decode cX6_isNamed 20 = .ok (.iconst 0, 1) := by decide +kernel
theorem dX6_isNamed_21 : decode cX6_isNamed 21 = .ok (.ireturn, 1) := by decide +kernel
theorem dX6_mend_0 : decode cX6_mend 0 = .ok (.bipush 12, 2) := by decide +kernel
theorem dX6_mend_2 : decode cX6_mend 2 = .ok (.iload_n 1, 1) := by decide +kernel
theorem dX6_mend_3 : decode cX6_mend 3 = .ok (.imul, 1) := by decide +kernel
theorem dX6_mend_4 : decode cX6_mend 4 = .ok (.istore 5, 2) := by decide +kernel
theorem dX6_mend_6 : decode cX6_mend 6 = .ok (.iload 5, 2) := by decide +kernel
theorem dX6_mend_8 : decode cX6_mend 8 = .ok (.bipush 12, 2) := by decide +kernel
theorem dX6_mend_10 : decode cX6_mend 10 = .ok (.iload_n 1, 1) := by decide +kernel
theorem dX6_mend_11 : decode cX6_mend 11 = .ok (.imul, 1) := by decide +kernel
theorem dX6_mend_12 : decode cX6_mend 12 = .ok (.bipush 12, 2) := by decide +kernel
theorem dX6_mend_14 : decode cX6_mend 14 = .ok (.iadd, 1) := by decide +kernel
theorem dX6_mend_15 : decode cX6_mend 15 = .ok (.if_icmp .ge 37, 3) := by decide +kernel
theorem dX6_mend_18 : decode cX6_mend 18 = .ok (.aload_n 0, 1) := by decide +kernel
theorem dX6_mend_19 : decode cX6_mend 19 = .ok (.getfield 74, 3) := by decide +kernel
theorem dX6_mend_22 : decode cX6_mend 22 = .ok (.iload 5, 2) := by decide +kernel
theorem dX6_mend_24 : decode cX6_mend 24 = .ok (.aload_n 0, 1) := by decide +kernel
theorem dX6_mend_25 : decode cX6_mend 25 = .ok (.getfield 44, 3) := by decide +kernel
theorem dX6_mend_28 : decode cX6_mend 28 = .ok (.iload 5, 2) := by decide +kernel
theorem dX6_mend_30 : decode cX6_mend 30 = .ok (.iaload, 1) := by decide +kernel
theorem dX6_mend_31 : decode cX6_mend 31 = .ok (.iconst 2, 1) := by decide +kernel
theorem dX6_mend_32 : decode cX6_mend 32 = .ok (.if_icmp .ne 12, 3) := by decide +kernel
theorem dX6_mend_35 : decode cX6_mend 35 = .ok (.aload_n 0, 1) := by decide +kernel
theorem dX6_mend_36 : decode cX6_mend 36 = .ok (.iload 5, 2) := by decide +kernel
theorem dX6_mend_38 : decode cX6_mend 38 = .ok (.invokevirtual 180, 3) := by decide +kernel
theorem dX6_mend_41 : decode cX6_mend 41 = .ok (.goto 4, 3) := by decide +kernel
theorem dX6_mend_44 : decode cX6_mend 44 = .ok (.iconst 0, 1) := by decide +kernel
theorem dX6_mend_45 : decode cX6_mend 45 = .ok (.iastore, 1) := by decide +kernel
theorem dX6_mend_46 : decode cX6_mend 46 = .ok (.iinc 5 1, 3) := by decide +kernel
theorem dX6_mend_49 : decode cX6_mend 49 = .ok (.goto (-43), 3) := by decide +kernel
theorem dX6_mend_52 : decode cX6_mend 52 = .ok (.aload_n 0, 1) := by decide +kernel
theorem dX6_mend_53 : decode cX6_mend 53 = .ok (.getfield 29, 3) := by decide +kernel
theorem dX6_mend_56 : decode cX6_mend 56 = .ok (.iload_n 2, 1) := by decide +kernel
theorem dX6_mend_57 : decode cX6_mend 57 = .ok (.iload_n 3, 1) := by decide +kernel
theorem dX6_mend_58 : decode cX6_mend 58 = .ok (.iastore, 1) := by decide +kernel
theorem dX6_mend_59 : decode cX6_mend 59 = .ok (.aload_n 0, 1) := by decide +kernel
theorem dX6_mend_60 : decode cX6_mend 60 = .ok (.getfield 32, 3) := by decide +kernel
theorem dX6_mend_63 : decode cX6_mend 63 = .ok (.iload_n 2, 1) := by decide +kernel
theorem dX6_mend_64 : decode cX6_mend 64 = .ok (.iload 4, 2) := by decide +kernel
theorem dX6_mend_66 : decode cX6_mend 66 = .ok (.iastore, 1) := by decide +kernel
theorem dX6_mend_67 : decode cX6_mend 67 = .ok (.iconst 0, 1) := by decide +kernel
theorem dX6_mend_68 : decode cX6_mend 68 = .ok (.istore 5, 2) := by decide +kernel
theorem dX6_mend_70 : decode cX6_mend 70 = .ok (.bipush 12, 2) := by decide +kernel
theorem dX6_mend_72 : decode cX6_mend 72 = .ok (.iload_n 1, 1) := by decide +kernel
theorem dX6_mend_73 : decode cX6_mend 73 = .ok (.imul, 1) := by decide +kernel
theorem dX6_mend_74 : decode cX6_mend 74 = .ok (.istore 6, 2) := by decide +kernel
theorem dX6_mend_76 : decode cX6_mend 76 = .ok (.iload 6, 2) := by decide +kernel
theorem dX6_mend_78 : decode cX6_mend 78 = .ok (.bipush 12, 2) := by decide +kernel
theorem dX6_mend_80 : decode cX6_mend 80 = .ok (.iload_n 1, 1) := by decide +kernel
theorem dX6_mend_81 : decode cX6_mend 81 = .ok (.imul, 1) := by decide +kernel
theorem dX6_mend_82 : decode cX6_mend 82 = .ok (.bipush 12, 2) := by decide +kernel
theorem dX6_mend_84 : decode cX6_mend 84 = .ok (.iadd, 1) := by decide +kernel
theorem dX6_mend_85 : decode cX6_mend 85 = .ok (.if_icmp .ge 105, 3) := by decide +kernel
theorem dX6_mend_88 : decode cX6_mend 88 = .ok (.aload_n 0, 1) := by decide +kernel
theorem dX6_mend_89 : decode cX6_mend 89 = .ok (.getfield 44, 3) := by decide +kernel
theorem dX6_mend_92 : decode cX6_mend 92 = .ok (.iload 6, 2) := by decide +kernel
theorem dX6_mend_94 : decode cX6_mend 94 = .ok (.iaload, 1) := by decide +kernel
theorem dX6_mend_95 : decode cX6_mend 95 = .ok (.iconst 2, 1) := by decide +kernel
theorem dX6_mend_96 : decode cX6_mend 96 = .ok (.if_icmp .ne 88, 3) := by decide +kernel
theorem dX6_mend_99 : decode cX6_mend 99 = .ok (.aload_n 0, 1) := by decide +kernel
theorem dX6_mend_100 : decode cX6_mend 100 = .ok (.iload 6, 2) := by decide +kernel
theorem dX6_mend_102 : decode cX6_mend 102 = .ok (.invokevirtual 180, 3) := by decide +kernel
theorem dX6_mend_105 : decode cX6_mend 105 = .ok (.aload_n 0, 1) := by decide +kernel
theorem dX6_mend_106 : decode cX6_mend 106 = .ok (.getfield 74, 3) := by decide +kernel
theorem dX6_mend_109 : decode cX6_mend 109 = .ok (.iload 6, 2) := by decide +kernel
theorem dX6_mend_111 : decode cX6_mend 111 = .ok (.iaload, 1) := by decide +kernel
theorem dX6_mend_112 : decode cX6_mend 112 = .ok (.if_icmp .eq 72, 3) := by decide +kernel
theorem dX6_mend_115 : decode cX6_mend 115 = .ok (.iinc 5 1, 3) := by decide +kernel
theorem dX6_mend_118 : decode cX6_mend 118 = .ok (.aload_n 0, 1) := by decide +kernel
theorem dX6_mend_119 : decode cX6_mend 119 = .ok (.getfield 38, 3) := by decide +kernel
theorem dX6_mend_122 : decode cX6_mend 122 = .ok (.iconst 4, 1) := by decide +kernel
theorem dX6_mend_123 : decode cX6_mend 123 = .ok (.iload_n 1, 1) := by decide +kernel
theorem dX6_mend_124 : decode cX6_mend 124 = .ok (.imul, 1) := by decide +kernel
theorem dX6_mend_125 : decode cX6_mend 125 = .ok (.iload 6, 2) := by decide +kernel
theorem dX6_mend_127 : decode cX6_mend 127 = .ok (.bipush 12, 2) := by decide +kernel
theorem dX6_mend_129 : decode cX6_mend 129 = .ok (.irem, 1) := by decide +kernel
theorem dX6_mend_130 : decode cX6_mend 130 = .ok (.iconst 3, 1) := by decide +kernel
theorem dX6_mend_131 : decode cX6_mend 131 = .ok (.idiv, 1) := by decide +kernel
theorem dX6_mend_132 : decode cX6_mend 132 = .ok (.iadd, 1) := by decide +kernel
theorem dX6_mend_133 : decode cX6_mend 133 = .ok (.baload, 1) := by decide +kernel
theorem dX6_mend_134 : decode cX6_mend 134 = .ok (.istore 7, 2) := by decide +kernel
theorem dX6_mend_136 : decode cX6_mend 136 = .ok (.aload_n 0, 1) := by decide +kernel
theorem dX6_mend_137 : decode cX6_mend 137 = .ok (.getfield 53, 3) := by decide +kernel
theorem dX6_mend_140 : decode cX6_mend 140 = .ok (.iload 6, 2) := by decide +kernel
theorem dX6_mend_142 : decode cX6_mend 142 = .ok (.dup2, 1) := by decide +kernel
theorem dX6_mend_143 : decode cX6_mend 143 = .ok (.iaload, 1) := by decide +kernel
theorem dX6_mend_144 : decode cX6_mend 144 = .ok (.iload 7, 2) := by decide +kernel
theorem dX6_mend_146 : decode cX6_mend 146 = .ok (.ifCond .eq 7, 3) := by decide +kernel
theorem dX6_mend_149 : decode cX6_mend 149 = .ok (.iconst 1, 1) := by decide +kernel
theorem dX6_mend_150 : decode cX6_mend 150 = .ok (.goto 4, 3) := by decide +kernel
theorem dX6_mend_153 : decode cX6_mend 153 = .ok (.iconst 0, 1) := by decide +kernel
theorem dX6_mend_154 : decode cX6_mend 154 = .ok (.iadd, 1) := by decide +kernel
theorem dX6_mend_155 : decode cX6_mend 155 = .ok (.iastore, 1) := by decide +kernel
theorem dX6_mend_156 : decode cX6_mend 156 = .ok (.aload_n 0, 1) := by decide +kernel
theorem dX6_mend_157 : decode cX6_mend 157 = .ok (.getfield 50, 3) := by decide +kernel
theorem dX6_mend_160 : decode cX6_mend 160 = .ok (.iload 6, 2) := by decide +kernel
theorem dX6_mend_162 : decode cX6_mend 162 = .ok (.iload 7, 2) := by decide +kernel
theorem dX6_mend_164 : decode cX6_mend 164 = .ok (.ifCond .eq 13, 3) := by decide +kernel
theorem dX6_mend_167 : decode cX6_mend 167 = .ok (.aload_n 0, 1) := by decide +kernel
theorem dX6_mend_168 : decode cX6_mend 168 = .ok (.getfield 50, 3) := by decide +kernel
theorem dX6_mend_171 : decode cX6_mend 171 = .ok (.iload 6, 2) := by decide +kernel
theorem dX6_mend_173 : decode cX6_mend 173 = .ok (.iaload, 1) := by decide +kernel
theorem dX6_mend_174 : decode cX6_mend 174 = .ok (.goto 9, 3) := by decide +kernel
theorem dX6_mend_177 : decode cX6_mend 177 = .ok (.aload_n 0, 1) := by decide +kernel
theorem dX6_mend_178 : decode cX6_mend 178 = .ok (.iload 6, 2) := by decide +kernel
theorem dX6_mend_180 : decode cX6_mend 180 = .ok (.invokevirtual 180, 3) := by decide +kernel
theorem dX6_mend_183 : decode cX6_mend 183 = .ok (.iastore, 1) := by decide +kernel
theorem dX6_mend_184 : decode cX6_mend 184 = .ok (.iinc 6 1, 3) := by decide +kernel
theorem dX6_mend_187 : decode cX6_mend 187 = .ok (.goto (-111), 3) := by decide +kernel
theorem dX6_mend_190 : decode cX6_mend 190 = .ok (.iload 5, 2) := by decide +kernel
theorem dX6_mend_192 : decode cX6_mend 192 = .ok (.ireturn, 1) := by decide +kernel
theorem dX6_mendNumber_0 : decode cX6_mendNumber 0 = .ok (.iload 4, 2) := by decide +kernel
theorem dX6_mendNumber_2 : decode cX6_mendNumber 2 = .ok (.sipush (-1000), 3) := by decide +kernel
theorem dX6_mendNumber_5 : decode cX6_mendNumber 5 = .ok (.sipush 1000, 3) := by decide +kernel
theorem dX6_mendNumber_8 : decode cX6_mendNumber 8 = .ok (.invokestatic 87, 3) := by decide +kernel
theorem dX6_mendNumber_11 : decode cX6_mendNumber 11 = .ok (.ifCond .eq 18, 3) := by decide +kernel
theorem dX6_mendNumber_14 : decode cX6_mendNumber 14 = .ok (.iload 5, 2) := by decide +kernel
theorem dX6_mendNumber_16 : decode cX6_mendNumber 16 = .ok (.iconst 0, 1) := by decide +kernel
theorem dX6_mendNumber_17 : decode cX6_mendNumber 17 = .ok (.bipush 100, 2) := by decide +kernel
theorem dX6_mendNumber_19 : decode cX6_mendNumber 19 = .ok (.invokestatic 87, 3) := by decide +kernel
theorem dX6_mendNumber_22 : decode cX6_mendNumber 22 = .ok (.ifCond .eq 7, 3) := by decide +kernel
theorem dX6_mendNumber_25 : decode cX6_mendNumber 25 = .ok (.iconst 1, 1) := by decide +kernel
theorem dX6_mendNumber_26 : decode cX6_mendNumber 26 = .ok (.goto 4, 3) := by decide +kernel
theorem dX6_mendNumber_29 : decode cX6_mendNumber 29 = .ok (.iconst 0, 1) := by decide +kernel
theorem dX6_mendNumber_30 : decode cX6_mendNumber 30 = .ok (.istore 6, 2) := by decide +kernel
theorem dX6_mendNumber_32 : decode cX6_mendNumber 32 = .ok (.aload_n 0, 1) := by decide +kernel
theorem dX6_mendNumber_33 : decode cX6_mendNumber 33 = .ok (.iload_n 1, 1) := by decide +kernel
theorem dX6_mendNumber_34 : decode cX6_mendNumber 34 = .ok (.iload_n 2, 1) := by decide +kernel
theorem dX6_mendNumber_35 : decode cX6_mendNumber 35 = .ok (.iload_n 3, 1) := by decide +kernel
theorem dX6_mendNumber_36 : decode cX6_mendNumber 36 = .ok (.invokevirtual 183, 3) := by decide +kernel
theorem dX6_mendNumber_39 : decode cX6_mendNumber 39 = .ok (.ifCond .eq 19, 3) := by decide +kernel
theorem dX6_mendNumber_42 : decode cX6_mendNumber 42 = .ok (.aload_n 0, 1) := by decide +kernel
theorem dX6_mendNumber_43 : decode cX6_mendNumber 43 = .ok (.iload_n 1, 1) := by decide +kernel
theorem dX6_mendNumber_44 : decode cX6_mendNumber 44 = .ok (.iload_n 2, 1) := by decide +kernel
theorem dX6_mendNumber_45 : decode cX6_mendNumber 45 = .ok (.iload_n 3, 1) := by decide +kernel
theorem dX6_mendNumber_46 : decode cX6_mendNumber 46 = .ok (.iconst 0, 1) := by decide +kernel
theorem dX6_mendNumber_47 : decode cX6_mendNumber 47 = .ok (.invokevirtual 186, 3) := by decide +kernel
theorem dX6_mendNumber_50 : decode cX6_mendNumber 50 = .ok (.iconst (-1), 1) := by decide +kernel
theorem dX6_mendNumber_51 : decode cX6_mendNumber 51 = .ok (.if_icmp .eq 7, 3) := by decide +kernel
theorem dX6_mendNumber_54 : decode cX6_mendNumber 54 = .ok (.iconst 1, 1) := by decide +kernel
theorem dX6_mendNumber_55 : decode cX6_mendNumber 55 = .ok (.goto 4, 3) := by decide +kernel
theorem dX6_mendNumber_58 : decode cX6_mendNumber 58 = .ok (.iconst 0, 1) := by decide +kernel
theorem dX6_mendNumber_59 : decode cX6_mendNumber 59 = .ok (.istore 7, 2) := by decide +kernel
theorem dX6_mendNumber_61 : decode cX6_mendNumber 61 = .ok (.aload_n 0, 1) := by decide +kernel
theorem dX6_mendNumber_62 : decode cX6_mendNumber 62 = .ok (.aload_n 0, 1) := by decide +kernel
theorem dX6_mendNumber_63 : decode cX6_mendNumber 63 = .ok (.iload_n 1, 1) := by decide +kernel
theorem dX6_mendNumber_64 : decode cX6_mendNumber 64 = .ok (.iload_n 2, 1) := by decide +kernel
theorem dX6_mendNumber_65 : decode cX6_mendNumber 65 = .ok (.iload_n 3, 1) := by decide +kernel
theorem dX6_mendNumber_66 : decode cX6_mendNumber 66 = .ok (.invokevirtual 183, 3) := by decide +kernel
theorem dX6_mendNumber_69 : decode cX6_mendNumber 69 = .ok (.ifCond .ne 7, 3) := by decide +kernel
theorem dX6_mendNumber_72 : decode cX6_mendNumber 72 = .ok (.iconst 1, 1) := by decide +kernel
theorem dX6_mendNumber_73 : decode cX6_mendNumber 73 = .ok (.goto 22, 3) := by decide +kernel
theorem dX6_mendNumber_76 : decode cX6_mendNumber 76 = .ok (.iload 6, 2) := by decide +kernel
theorem dX6_mendNumber_78 : decode cX6_mendNumber 78 = .ok (.ifCond .ne 7, 3) := by decide +kernel
theorem dX6_mendNumber_81 : decode cX6_mendNumber 81 = .ok (.iconst 2, 1) := by decide +kernel
theorem dX6_mendNumber_82 : decode cX6_mendNumber 82 = .ok (.goto 13, 3) := by decide +kernel
theorem dX6_mendNumber_85 : decode cX6_mendNumber 85 = .ok (.iload 7, 2) := by decide +kernel
theorem dX6_mendNumber_87 : decode cX6_mendNumber 87 = .ok (.ifCond .eq 7, 3) := by decide +kernel
theorem dX6_mendNumber_90 : decode cX6_mendNumber 90 = .ok (.iconst 0, 1) := by decide +kernel
theorem dX6_mendNumber_91 : decode cX6_mendNumber 91 = .ok (.goto 4, 3) := by decide +kernel
theorem dX6_mendNumber_94 : decode cX6_mendNumber 94 = .ok (.iconst 3, 1) := by decide +kernel
theorem dX6_mendNumber_95 : decode cX6_mendNumber 95 = .ok (.invokevirtual 120, 3) := by decide +kernel
theorem dX6_mendNumber_98 : decode cX6_mendNumber 98 = .ok (.ifCond .eq 5, 3) := by decide +kernel
theorem dX6_mendNumber_101 : decode cX6_mendNumber 101 = .ok (.iconst 0, 1) := by decide +kernel
theorem dX6_mendNumber_102 : decode cX6_mendNumber 102 = .ok (.ireturn, 1) := by decide +kernel
theorem dX6_mendNumber_103 : decode cX6_mendNumber 103 = .ok (.aload_n 0, 1) := by decide +kernel
theorem dX6_mendNumber_104 : decode cX6_mendNumber 104 = .ok (.iload_n 1, 1) := by decide +kernel
theorem dX6_mendNumber_105 : decode cX6_mendNumber 105 = .ok (.aload_n 0, 1) := by decide +kernel
theorem dX6_mendNumber_106 : decode cX6_mendNumber 106 = .ok (.iload_n 1, 1) := by decide +kernel
theorem dX6_mendNumber_107 : decode cX6_mendNumber 107 = .ok (.iload_n 2, 1) := by decide +kernel
theorem dX6_mendNumber_108 : decode cX6_mendNumber 108 = .ok (.iload_n 3, 1) := by decide +kernel
theorem dX6_mendNumber_109 : decode cX6_mendNumber 109 = .ok (.iconst 0, 1) := by decide +kernel
theorem dX6_mendNumber_110 : decode cX6_mendNumber 110 = .ok (.invokevirtual 186, 3) := by decide +kernel
theorem dX6_mendNumber_113 : decode cX6_mendNumber 113 = .ok (.iload 4, 2) := by decide +kernel
theorem dX6_mendNumber_115 : decode cX6_mendNumber 115 = .ok (.iload 5, 2) := by decide +kernel
theorem dX6_mendNumber_117 : decode cX6_mendNumber 117 = .ok (.invokevirtual 190, 3) := by decide +kernel
theorem dX6_mendNumber_120 : decode cX6_mendNumber 120 = .ok (.ireturn, 1) := by decide +kernel
theorem dX6_mendChoice_0 : decode cX6_mendChoice 0 = .ok (.iload 4, 2) := by decide +kernel
theorem dX6_mendChoice_2 : decode cX6_mendChoice 2 = .ok (.iconst 0, 1) := by decide +kernel
theorem dX6_mendChoice_3 : decode cX6_mendChoice 3 = .ok (.bipush 31, 2) := by decide +kernel
theorem dX6_mendChoice_5 : decode cX6_mendChoice 5 = .ok (.invokestatic 87, 3) := by decide +kernel
theorem dX6_mendChoice_8 : decode cX6_mendChoice 8 = .ok (.istore 5, 2) := by decide +kernel
theorem dX6_mendChoice_10 : decode cX6_mendChoice 10 = .ok (.aload_n 0, 1) := by decide +kernel
theorem dX6_mendChoice_11 : decode cX6_mendChoice 11 = .ok (.iload_n 1, 1) := by decide +kernel
theorem dX6_mendChoice_12 : decode cX6_mendChoice 12 = .ok (.iload_n 2, 1) := by decide +kernel
theorem dX6_mendChoice_13 : decode cX6_mendChoice 13 = .ok (.iload_n 3, 1) := by decide +kernel
theorem dX6_mendChoice_14 : decode cX6_mendChoice 14 = .ok (.invokevirtual 183, 3) := by decide +kernel
theorem dX6_mendChoice_17 : decode cX6_mendChoice 17 = .ok (.ifCond .eq 19, 3) := by decide +kernel
theorem dX6_mendChoice_20 : decode cX6_mendChoice 20 = .ok (.aload_n 0, 1) := by decide +kernel
theorem dX6_mendChoice_21 : decode cX6_mendChoice 21 = .ok (.iload_n 1, 1) := by decide +kernel
theorem dX6_mendChoice_22 : decode cX6_mendChoice 22 = .ok (.iload_n 2, 1) := by decide +kernel
theorem dX6_mendChoice_23 : decode cX6_mendChoice 23 = .ok (.iload_n 3, 1) := by decide +kernel
theorem dX6_mendChoice_24 : decode cX6_mendChoice 24 = .ok (.iconst 1, 1) := by decide +kernel
theorem dX6_mendChoice_25 : decode cX6_mendChoice 25 = .ok (.invokevirtual 186, 3) := by decide +kernel
theorem dX6_mendChoice_28 : decode cX6_mendChoice 28 = .ok (.iconst (-1), 1) := by decide +kernel
theorem dX6_mendChoice_29 : decode cX6_mendChoice 29 = .ok (.if_icmp .eq 7, 3) := by decide +kernel
theorem dX6_mendChoice_32 : decode cX6_mendChoice 32 = .ok (.iconst 1, 1) := by decide +kernel
theorem dX6_mendChoice_33 : decode cX6_mendChoice 33 = .ok (.goto 4, 3) := by decide +kernel
theorem dX6_mendChoice_36 : decode cX6_mendChoice 36 = .ok (.iconst 0, 1) := by decide +kernel
theorem dX6_mendChoice_37 : decode cX6_mendChoice 37 = .ok (.istore 6, 2) := by decide +kernel
theorem dX6_mendChoice_39 : decode cX6_mendChoice 39 = .ok (.aload_n 0, 1) := by decide +kernel
theorem dX6_mendChoice_40 : decode cX6_mendChoice 40 = .ok (.aload_n 0, 1) := by decide +kernel
theorem dX6_mendChoice_41 : decode cX6_mendChoice 41 = .ok (.iload_n 1, 1) := by decide +kernel
theorem dX6_mendChoice_42 : decode cX6_mendChoice 42 = .ok (.iload_n 2, 1) := by decide +kernel
theorem dX6_mendChoice_43 : decode cX6_mendChoice 43 = .ok (.iload_n 3, 1) := by decide +kernel
theorem dX6_mendChoice_44 : decode cX6_mendChoice 44 = .ok (.invokevirtual 183, 3) := by decide +kernel
theorem dX6_mendChoice_47 : decode cX6_mendChoice 47 = .ok (.ifCond .ne 7, 3) := by decide +kernel
theorem dX6_mendChoice_50 : decode cX6_mendChoice 50 = .ok (.iconst 1, 1) := by decide +kernel
theorem dX6_mendChoice_51 : decode cX6_mendChoice 51 = .ok (.goto 22, 3) := by decide +kernel
theorem dX6_mendChoice_54 : decode cX6_mendChoice 54 = .ok (.iload 5, 2) := by decide +kernel
theorem dX6_mendChoice_56 : decode cX6_mendChoice 56 = .ok (.ifCond .ne 7, 3) := by decide +kernel
theorem dX6_mendChoice_59 : decode cX6_mendChoice 59 = .ok (.iconst 2, 1) := by decide +kernel
theorem dX6_mendChoice_60 : decode cX6_mendChoice 60 = .ok (.goto 13, 3) := by decide +kernel
theorem dX6_mendChoice_63 : decode cX6_mendChoice 63 = .ok (.iload 6, 2) := by decide +kernel
theorem dX6_mendChoice_65 : decode cX6_mendChoice 65 = .ok (.ifCond .eq 7, 3) := by decide +kernel
theorem dX6_mendChoice_68 : decode cX6_mendChoice 68 = .ok (.iconst 0, 1) := by decide +kernel
theorem dX6_mendChoice_69 : decode cX6_mendChoice 69 = .ok (.goto 4, 3) := by decide +kernel
theorem dX6_mendChoice_72 : decode cX6_mendChoice 72 = .ok (.iconst 3, 1) := by decide +kernel
theorem dX6_mendChoice_73 : decode cX6_mendChoice 73 = .ok (.invokevirtual 120, 3) := by decide +kernel
theorem dX6_mendChoice_76 : decode cX6_mendChoice 76 = .ok (.ifCond .eq 5, 3) := by decide +kernel
theorem dX6_mendChoice_79 : decode cX6_mendChoice 79 = .ok (.iconst 0, 1) := by decide +kernel
theorem dX6_mendChoice_80 : decode cX6_mendChoice 80 = .ok (.ireturn, 1) := by decide +kernel
theorem dX6_mendChoice_81 : decode cX6_mendChoice 81 = .ok (.aload_n 0, 1) := by decide +kernel
theorem dX6_mendChoice_82 : decode cX6_mendChoice 82 = .ok (.iload_n 1, 1) := by decide +kernel
theorem dX6_mendChoice_83 : decode cX6_mendChoice 83 = .ok (.aload_n 0, 1) := by decide +kernel
theorem dX6_mendChoice_84 : decode cX6_mendChoice 84 = .ok (.iload_n 1, 1) := by decide +kernel
theorem dX6_mendChoice_85 : decode cX6_mendChoice 85 = .ok (.iload_n 2, 1) := by decide +kernel
theorem dX6_mendChoice_86 : decode cX6_mendChoice 86 = .ok (.iload_n 3, 1) := by decide +kernel
theorem dX6_mendChoice_87 : decode cX6_mendChoice 87 = .ok (.iconst 1, 1) := by decide +kernel
theorem dX6_mendChoice_88 : decode cX6_mendChoice 88 = .ok (.invokevirtual 186, 3) := by decide +kernel
theorem dX6_mendChoice_91 : decode cX6_mendChoice 91 = .ok (.iload 4, 2) := by decide +kernel
theorem dX6_mendChoice_93 : decode cX6_mendChoice 93 = .ok (.iconst 0, 1) := by decide +kernel
theorem dX6_mendChoice_94 : decode cX6_mendChoice 94 = .ok (.invokevirtual 190, 3) := by decide +kernel
theorem dX6_mendChoice_97 : decode cX6_mendChoice 97 = .ok (.ireturn, 1) := by decide +kernel
theorem dX6_mendWords_0 : decode cX6_mendWords 0 = .ok (.iload 4, 2) := by decide +kernel
theorem dX6_mendWords_2 : decode cX6_mendWords 2 = .ok (.invokestatic 143, 3) := by decide +kernel
theorem dX6_mendWords_5 : decode cX6_mendWords 5 = .ok (.istore 5, 2) := by decide +kernel
theorem dX6_mendWords_7 : decode cX6_mendWords 7 = .ok (.aload_n 0, 1) := by decide +kernel
theorem dX6_mendWords_8 : decode cX6_mendWords 8 = .ok (.iload_n 1, 1) := by decide +kernel
theorem dX6_mendWords_9 : decode cX6_mendWords 9 = .ok (.iload_n 2, 1) := by decide +kernel
theorem dX6_mendWords_10 : decode cX6_mendWords 10 = .ok (.iload_n 3, 1) := by decide +kernel
theorem dX6_mendWords_11 : decode cX6_mendWords 11 = .ok (.invokevirtual 183, 3) := by decide +kernel
theorem dX6_mendWords_14 : decode cX6_mendWords 14 = .ok (.istore 6, 2) := by decide +kernel
theorem dX6_mendWords_16 : decode cX6_mendWords 16 = .ok (.iload 6, 2) := by decide +kernel
theorem dX6_mendWords_18 : decode cX6_mendWords 18 = .ok (.ifCond .eq 14, 3) := by decide +kernel
theorem dX6_mendWords_21 : decode cX6_mendWords 21 = .ok (.aload_n 0, 1) := by decide +kernel
theorem dX6_mendWords_22 : decode cX6_mendWords 22 = .ok (.iload_n 1, 1) := by decide +kernel
theorem dX6_mendWords_23 : decode cX6_mendWords 23 = .ok (.iload_n 2, 1) := by decide +kernel
theorem dX6_mendWords_24 : decode cX6_mendWords 24 = .ok (.iload_n 3, 1) := by decide +kernel
theorem dX6_mendWords_25 : decode cX6_mendWords 25 = .ok (.iconst 2, 1) := by decide +kernel
theorem dX6_mendWords_26 : decode cX6_mendWords 26 = .ok (.invokevirtual 186, 3) := by decide +kernel
theorem dX6_mendWords_29 : decode cX6_mendWords 29 = .ok (.goto 4, 3) := by decide +kernel
theorem dX6_mendWords_32 : decode cX6_mendWords 32 = .ok (.iconst (-1), 1) := by decide +kernel
theorem dX6_mendWords_33 : decode cX6_mendWords 33 = .ok (.istore 7, 2) := by decide +kernel
theorem dX6_mendWords_35 : decode cX6_mendWords 35 = .ok (.iload 5, 2) := by decide +kernel
theorem dX6_mendWords_37 : decode cX6_mendWords 37 = .ok (.ifCond .eq 41, 3) := by decide +kernel
theorem dX6_mendWords_40 : decode cX6_mendWords 40 = .ok (.iload 7, 2) := by decide +kernel
theorem dX6_mendWords_42 : decode cX6_mendWords 42 = .ok (.iconst (-1), 1) := by decide +kernel
theorem dX6_mendWords_43 : decode cX6_mendWords 43 = .ok (.if_icmp .eq 35, 3) := by decide +kernel
theorem dX6_mendWords_46 : decode cX6_mendWords 46 = .ok (.aload_n 0, 1) := by decide +kernel
theorem dX6_mendWords_47 : decode cX6_mendWords 47 = .ok (.aload_n 0, 1) := by decide +kernel
theorem dX6_mendWords_48 : decode cX6_mendWords 48 = .ok (.getfield 17, 3) := by decide +kernel
theorem dX6_mendWords_51 : decode cX6_mendWords 51 = .ok (.iload 7, 2) := by decide +kernel
theorem dX6_mendWords_53 : decode cX6_mendWords 53 = .ok (.iconst 5, 1) := by decide +kernel
theorem dX6_mendWords_54 : decode cX6_mendWords 54 = .ok (.idiv, 1) := by decide +kernel
theorem dX6_mendWords_55 : decode cX6_mendWords 55 = .ok (.iaload, 1) := by decide +kernel
theorem dX6_mendWords_56 : decode cX6_mendWords 56 = .ok (.iload 4, 2) := by decide +kernel
theorem dX6_mendWords_58 : decode cX6_mendWords 58 = .ok (.invokestatic 103, 3) := by decide +kernel
theorem dX6_mendWords_61 : decode cX6_mendWords 61 = .ok (.aload_n 0, 1) := by decide +kernel
theorem dX6_mendWords_62 : decode cX6_mendWords 62 = .ok (.iload 7, 2) := by decide +kernel
theorem dX6_mendWords_64 : decode cX6_mendWords 64 = .ok (.invokevirtual 111, 3) := by decide +kernel
theorem dX6_mendWords_67 : decode cX6_mendWords 67 = .ok (.isub, 1) := by decide +kernel
theorem dX6_mendWords_68 : decode cX6_mendWords 68 = .ok (.invokevirtual 123, 3) := by decide +kernel
theorem dX6_mendWords_71 : decode cX6_mendWords 71 = .ok (.ifCond .eq 7, 3) := by decide +kernel
theorem dX6_mendWords_74 : decode cX6_mendWords 74 = .ok (.iconst 1, 1) := by decide +kernel
theorem dX6_mendWords_75 : decode cX6_mendWords 75 = .ok (.goto 4, 3) := by decide +kernel
theorem dX6_mendWords_78 : decode cX6_mendWords 78 = .ok (.iconst 0, 1) := by decide +kernel
theorem dX6_mendWords_79 : decode cX6_mendWords 79 = .ok (.istore 8, 2) := by decide +kernel
theorem dX6_mendWords_81 : decode cX6_mendWords 81 = .ok (.aload_n 0, 1) := by decide +kernel
theorem dX6_mendWords_82 : decode cX6_mendWords 82 = .ok (.iload 6, 2) := by decide +kernel
theorem dX6_mendWords_84 : decode cX6_mendWords 84 = .ok (.ifCond .ne 7, 3) := by decide +kernel
theorem dX6_mendWords_87 : decode cX6_mendWords 87 = .ok (.iconst 1, 1) := by decide +kernel
theorem dX6_mendWords_88 : decode cX6_mendWords 88 = .ok (.goto 22, 3) := by decide +kernel
theorem dX6_mendWords_91 : decode cX6_mendWords 91 = .ok (.iload 5, 2) := by decide +kernel
theorem dX6_mendWords_93 : decode cX6_mendWords 93 = .ok (.ifCond .ne 7, 3) := by decide +kernel
theorem dX6_mendWords_96 : decode cX6_mendWords 96 = .ok (.iconst 2, 1) := by decide +kernel
theorem dX6_mendWords_97 : decode cX6_mendWords 97 = .ok (.goto 13, 3) := by decide +kernel
theorem dX6_mendWords_100 : decode cX6_mendWords 100 = .ok (.iload 8, 2) := by decide +kernel
theorem dX6_mendWords_102 : decode cX6_mendWords 102 = .ok (.ifCond .eq 7, 3) := by decide +kernel
theorem dX6_mendWords_105 : decode cX6_mendWords 105 = .ok (.iconst 0, 1) := by decide +kernel
theorem dX6_mendWords_106 : decode cX6_mendWords 106 = .ok (.goto 4, 3) := by decide +kernel
theorem dX6_mendWords_109 : decode cX6_mendWords 109 = .ok (.iconst 3, 1) := by decide +kernel
theorem dX6_mendWords_110 : decode cX6_mendWords 110 = .ok (.invokevirtual 120, 3) := by decide +kernel
theorem dX6_mendWords_113 : decode cX6_mendWords 113 = .ok (.ifCond .eq 5, 3) := by decide +kernel
theorem dX6_mendWords_116 : decode cX6_mendWords 116 = .ok (.iconst 0, 1) := by decide +kernel
theorem dX6_mendWords_117 : decode cX6_mendWords 117 = .ok (.ireturn, 1) := by decide +kernel
theorem dX6_mendWords_118 : decode cX6_mendWords 118 = .ok (.aload_n 0, 1) := by decide +kernel
theorem dX6_mendWords_119 : decode cX6_mendWords 119 = .ok (.iload_n 1, 1) := by decide +kernel
theorem dX6_mendWords_120 : decode cX6_mendWords 120 = .ok (.iload 7, 2) := by decide +kernel
theorem dX6_mendWords_122 : decode cX6_mendWords 122 = .ok (.iload 4, 2) := by decide +kernel
theorem dX6_mendWords_124 : decode cX6_mendWords 124 = .ok (.iconst 0, 1) := by decide +kernel
theorem dX6_mendWords_125 : decode cX6_mendWords 125 = .ok (.invokevirtual 190, 3) := by decide +kernel
theorem dX6_mendWords_128 : decode cX6_mendWords 128 = .ok (.ireturn, 1) := by decide +kernel
theorem dX6_areBoth_0 : decode cX6_areBoth 0 = .ok (.iload_n 1, 1) := by decide +kernel
theorem dX6_areBoth_1 : decode cX6_areBoth 1 = .ok (.invokestatic 193, 3) := by decide +kernel
theorem dX6_areBoth_4 : decode cX6_areBoth 4 = .ok (.ifCond .eq 15, 3) := by decide +kernel
theorem dX6_areBoth_7 : decode cX6_areBoth 7 = .ok (.aload_n 0, 1) := by decide +kernel
theorem dX6_areBoth_8 : decode cX6_areBoth 8 = .ok (.iload_n 2, 1) := by decide +kernel
theorem dX6_areBoth_9 : decode cX6_areBoth 9 = .ok (.invokevirtual 94, 3) := by decide +kernel
theorem dX6_areBoth_12 : decode cX6_areBoth 12 = .ok (.ifCond .eq 7, 3) := by decide +kernel
theorem dX6_areBoth_15 : decode cX6_areBoth 15 = .ok (.iconst 1, 1) := by decide +kernel
theorem dX6_areBoth_16 : decode cX6_areBoth 16 = .ok (.goto 4, 3) := by decide +kernel
theorem dX6_areBoth_19 : decode cX6_areBoth 19 = .ok (.iconst 0, 1) := by decide +kernel
theorem dX6_areBoth_20 : decode cX6_areBoth 20 = .ok (.ireturn, 1) := by decide +kernel
theorem dX6_taken_0 : decode cX6_taken 0 = .ok (.iconst 0, 1) := by decide +kernel
theorem dX6_taken_1 : decode cX6_taken 1 = .ok (.istore_n 2, 1) := by decide +kernel
theorem dX6_taken_2 : decode cX6_taken 2 = .ok (.iconst 5, 1) := by decide +kernel
theorem dX6_taken_3 : decode cX6_taken 3 = .ok (.iload_n 1, 1) := by decide +kernel
theorem dX6_taken_4 : decode cX6_taken 4 = .ok (.imul, 1) := by decide +kernel
theorem dX6_taken_5 : decode cX6_taken 5 = .ok (.istore_n 3, 1) := by decide +kernel
theorem dX6_taken_6 : decode cX6_taken 6 = .ok (.iload_n 3, 1) := by decide +kernel
theorem dX6_taken_7 : decode cX6_taken 7 = .ok (.iconst 5, 1) := by decide +kernel
theorem dX6_taken_8 : decode cX6_taken 8 = .ok (.iload_n 1, 1) := by decide +kernel
theorem dX6_taken_9 : decode cX6_taken 9 = .ok (.imul, 1) := by decide +kernel
theorem dX6_taken_10 : decode cX6_taken 10 = .ok (.iconst 5, 1) := by decide +kernel
theorem dX6_taken_11 : decode cX6_taken 11 = .ok (.iadd, 1) := by decide +kernel
theorem dX6_taken_12 : decode cX6_taken 12 = .ok (.if_icmp .ge 48, 3) := by decide +kernel
theorem dX6_taken_15 : decode cX6_taken 15 = .ok (.iload_n 2, 1) := by decide +kernel
theorem dX6_taken_16 : decode cX6_taken 16 = .ok (.aload_n 0, 1) := by decide +kernel
theorem dX6_taken_17 : decode cX6_taken 17 = .ok (.getfield 56, 3) := by decide +kernel
theorem dX6_taken_20 : decode cX6_taken 20 = .ok (.iload_n 3, 1) := by decide +kernel
theorem dX6_taken_21 : decode cX6_taken 21 = .ok (.baload, 1) := by decide +kernel
theorem dX6_taken_22 : decode cX6_taken 22 = .ok (.ifCond .eq 7, 3) := by decide +kernel
theorem dX6_taken_25 : decode cX6_taken 25 = .ok (.iconst 1, 1) := by decide +kernel
theorem dX6_taken_26 : decode cX6_taken 26 = .ok (.goto 4, 3) := by decide +kernel
theorem dX6_taken_29 : decode cX6_taken 29 = .ok (.iconst 0, 1) := by decide +kernel
theorem dX6_taken_30 : decode cX6_taken 30 = .ok (.aload_n 0, 1) := by decide +kernel
theorem dX6_taken_31 : decode cX6_taken 31 = .ok (.getfield 62, 3) := by decide +kernel
theorem dX6_taken_34 : decode cX6_taken 34 = .ok (.iload_n 3, 1) := by decide +kernel
theorem dX6_taken_35 : decode cX6_taken 35 = .ok (.iaload, 1) := by decide +kernel
theorem dX6_taken_36 : decode cX6_taken 36 = .ok (.ifCond .ne 7, 3) := by decide +kernel
theorem dX6_taken_39 : decode cX6_taken 39 = .ok (.iconst 0, 1) := by decide +kernel
theorem dX6_taken_40 : decode cX6_taken 40 = .ok (.goto 4, 3) := by decide +kernel
theorem dX6_taken_43 : decode cX6_taken 43 = .ok (.iconst 1, 1) := by decide +kernel
theorem dX6_taken_44 : decode cX6_taken 44 = .ok (.iadd, 1) := by decide +kernel
theorem dX6_taken_45 : decode cX6_taken 45 = .ok (.aload_n 0, 1) := by decide +kernel
theorem dX6_taken_46 : decode cX6_taken 46 = .ok (.getfield 65, 3) := by decide +kernel
theorem dX6_taken_49 : decode cX6_taken 49 = .ok (.iload_n 3, 1) := by decide +kernel
theorem dX6_taken_50 : decode cX6_taken 50 = .ok (.iaload, 1) := by decide +kernel
theorem dX6_taken_51 : decode cX6_taken 51 = .ok (.iadd, 1) := by decide +kernel
theorem dX6_taken_52 : decode cX6_taken 52 = .ok (.iadd, 1) := by decide +kernel
theorem dX6_taken_53 : decode cX6_taken 53 = .ok (.istore_n 2, 1) := by decide +kernel
theorem dX6_taken_54 : decode cX6_taken 54 = .ok (.iinc 3 1, 3) := by decide +kernel
theorem dX6_taken_57 : decode cX6_taken 57 = .ok (.goto (-51), 3) := by decide +kernel
theorem dX6_taken_60 : decode cX6_taken 60 = .ok (.iload_n 2, 1) := by decide +kernel
theorem dX6_taken_61 : decode cX6_taken 61 = .ok (.ireturn, 1) := by decide +kernel
theorem dX6_forget_0 : decode cX6_forget 0 = .ok (.aload_n 0, 1) := by decide +kernel
theorem dX6_forget_1 : decode cX6_forget 1 = .ok (.getfield 44, 3) := by decide +kernel
theorem dX6_forget_4 : decode cX6_forget 4 = .ok (.iload_n 1, 1) := by decide +kernel
theorem dX6_forget_5 : decode cX6_forget 5 = .ok (.iconst 0, 1) := by decide +kernel
theorem dX6_forget_6 : decode cX6_forget 6 = .ok (.iastore, 1) := by decide +kernel
theorem dX6_forget_7 : decode cX6_forget 7 = .ok (.iconst 5, 1) := by decide +kernel
theorem dX6_forget_8 : decode cX6_forget 8 = .ok (.iload_n 1, 1) := by decide +kernel
theorem dX6_forget_9 : decode cX6_forget 9 = .ok (.imul, 1) := by decide +kernel
theorem dX6_forget_10 : decode cX6_forget 10 = .ok (.istore_n 2, 1) := by decide +kernel
theorem dX6_forget_11 : decode cX6_forget 11 = .ok (.iload_n 2, 1) := by decide +kernel
theorem dX6_forget_12 : decode cX6_forget 12 = .ok (.iconst 5, 1) := by decide +kernel
theorem dX6_forget_13 : decode cX6_forget 13 = .ok (.iload_n 1, 1) := by decide +kernel
theorem dX6_forget_14 : decode cX6_forget 14 = .ok (.imul, 1) := by decide +kernel
theorem dX6_forget_15 : decode cX6_forget 15 = .ok (.iconst 5, 1) := by decide +kernel
theorem dX6_forget_16 : decode cX6_forget 16 = .ok (.iadd, 1) := by decide +kernel
theorem dX6_forget_17 : decode cX6_forget 17 = .ok (.if_icmp .ge 37, 3) := by decide +kernel
theorem dX6_forget_20 : decode cX6_forget 20 = .ok (.aload_n 0, 1) := by decide +kernel
theorem dX6_forget_21 : decode cX6_forget 21 = .ok (.getfield 56, 3) := by decide +kernel
theorem dX6_forget_24 : decode cX6_forget 24 = .ok (.iload_n 2, 1) := by decide +kernel
theorem dX6_forget_25 : decode cX6_forget 25 = .ok (.iconst 0, 1) := by decide +kernel
theorem dX6_forget_26 : decode cX6_forget 26 = .ok (.bastore, 1) := by decide +kernel
theorem dX6_forget_27 : decode cX6_forget 27 = .ok (.aload_n 0, 1) := by decide +kernel
theorem dX6_forget_28 : decode cX6_forget 28 = .ok (.getfield 59, 3) := by decide +kernel
theorem dX6_forget_31 : decode cX6_forget 31 = .ok (.iload_n 2, 1) := by decide +kernel
theorem dX6_forget_32 : decode cX6_forget 32 = .ok (.iconst 0, 1) := by decide +kernel
theorem dX6_forget_33 : decode cX6_forget 33 = .ok (.iastore, 1) := by decide +kernel
theorem dX6_forget_34 : decode cX6_forget 34 = .ok (.aload_n 0, 1) := by decide +kernel
theorem dX6_forget_35 : decode cX6_forget 35 = .ok (.getfield 62, 3) := by decide +kernel
theorem dX6_forget_38 : decode cX6_forget 38 = .ok (.iload_n 2, 1) := by decide +kernel
theorem dX6_forget_39 : decode cX6_forget 39 = .ok (.iconst 0, 1) := by decide +kernel
theorem dX6_forget_40 : decode cX6_forget 40 = .ok (.iastore, 1) := by decide +kernel
theorem dX6_forget_41 : decode cX6_forget 41 = .ok (.aload_n 0, 1) := by decide +kernel
theorem dX6_forget_42 : decode cX6_forget 42 = .ok (.getfield 65, 3) := by decide +kernel
theorem dX6_forget_45 : decode cX6_forget 45 = .ok (.iload_n 2, 1) := by decide +kernel
theorem dX6_forget_46 : decode cX6_forget 46 = .ok (.iconst 0, 1) := by decide +kernel
theorem dX6_forget_47 : decode cX6_forget 47 = .ok (.iastore, 1) := by decide +kernel
theorem dX6_forget_48 : decode cX6_forget 48 = .ok (.iinc 2 1, 3) := by decide +kernel
theorem dX6_forget_51 : decode cX6_forget 51 = .ok (.goto (-40), 3) := by decide +kernel
theorem dX6_forget_54 : decode cX6_forget 54 = .ok (.return_, 1) := by decide +kernel
theorem dX6_open_0 : decode cX6_open 0 = .ok (.aload_n 0, 1) := by decide +kernel
theorem dX6_open_1 : decode cX6_open 1 = .ok (.iload_n 1, 1) := by decide +kernel
theorem dX6_open_2 : decode cX6_open 2 = .ok (.iload_n 2, 1) := by decide +kernel
theorem dX6_open_3 : decode cX6_open 3 = .ok (.invokevirtual 196, 3) := by decide +kernel
theorem dX6_open_6 : decode cX6_open 6 = .ok (.istore_n 3, 1) := by decide +kernel
theorem dX6_open_7 : decode cX6_open 7 = .ok (.iload_n 3, 1) := by decide +kernel
theorem dX6_open_8 : decode cX6_open 8 = .ok (.ifCond .eq 36, 3) := by decide +kernel
theorem dX6_open_11 : decode cX6_open 11 = .ok (.aload_n 0, 1) := by decide +kernel
theorem dX6_open_12 : decode cX6_open 12 = .ok (.getfield 44, 3) := by decide +kernel
theorem dX6_open_15 : decode cX6_open 15 = .ok (.bipush 12, 2) := by decide +kernel
theorem dX6_open_17 : decode cX6_open 17 = .ok (.iload_n 2, 1) := by decide +kernel
theorem dX6_open_18 : decode cX6_open 18 = .ok (.imul, 1) := by decide +kernel
theorem dX6_open_19 : decode cX6_open 19 = .ok (.iload_n 1, 1) := by decide +kernel
theorem dX6_open_20 : decode cX6_open 20 = .ok (.iadd, 1) := by decide +kernel
theorem dX6_open_21 : decode cX6_open 21 = .ok (.iaload, 1) := by decide +kernel
theorem dX6_open_22 : decode cX6_open 22 = .ok (.ifCond .ne 22, 3) := by decide +kernel
theorem dX6_open_25 : decode cX6_open 25 = .ok (.aload_n 0, 1) := by decide +kernel
theorem dX6_open_26 : decode cX6_open 26 = .ok (.getfield 38, 3) := by decide +kernel
theorem dX6_open_29 : decode cX6_open 29 = .ok (.iconst 4, 1) := by decide +kernel
theorem dX6_open_30 : decode cX6_open 30 = .ok (.iload_n 2, 1) := by decide +kernel
theorem dX6_open_31 : decode cX6_open 31 = .ok (.imul, 1) := by decide +kernel
theorem dX6_open_32 : decode cX6_open 32 = .ok (.iload_n 1, 1) := by decide +kernel
theorem dX6_open_33 : decode cX6_open 33 = .ok (.iconst 3, 1) := by decide +kernel
theorem dX6_open_34 : decode cX6_open 34 = .ok (.idiv, 1) := by decide +kernel
theorem dX6_open_35 : decode cX6_open 35 = .ok (.iadd, 1) := by decide +kernel
theorem dX6_open_36 : decode cX6_open 36 = .ok (.baload, 1) := by decide +kernel
theorem dX6_open_37 : decode cX6_open 37 = .ok (.ifCond .ne 7, 3) := by decide +kernel
theorem dX6_open_40 : decode cX6_open 40 = .ok (.iconst 1, 1) := by decide +kernel
theorem dX6_open_41 : decode cX6_open 41 = .ok (.goto 4, 3) := by decide +kernel
theorem dX6_open_44 : decode cX6_open 44 = .ok (.iconst 0, 1) := by decide +kernel
theorem dX6_open_45 : decode cX6_open 45 = .ok (.istore 4, 2) := by decide +kernel
theorem dX6_open_47 : decode cX6_open 47 = .ok (.aload_n 0, 1) := by decide +kernel
theorem dX6_open_48 : decode cX6_open 48 = .ok (.iload_n 3, 1) := by decide +kernel
theorem dX6_open_49 : decode cX6_open 49 = .ok (.ifCond .ne 7, 3) := by decide +kernel
theorem dX6_open_52 : decode cX6_open 52 = .ok (.iconst 1, 1) := by decide +kernel
theorem dX6_open_53 : decode cX6_open 53 = .ok (.goto 13, 3) := by decide +kernel
theorem dX6_open_56 : decode cX6_open 56 = .ok (.iload 4, 2) := by decide +kernel
theorem dX6_open_58 : decode cX6_open 58 = .ok (.ifCond .eq 7, 3) := by decide +kernel
theorem dX6_open_61 : decode cX6_open 61 = .ok (.iconst 0, 1) := by decide +kernel
theorem dX6_open_62 : decode cX6_open 62 = .ok (.goto 4, 3) := by decide +kernel
theorem dX6_open_65 : decode cX6_open 65 = .ok (.iconst 2, 1) := by decide +kernel
theorem dX6_open_66 : decode cX6_open 66 = .ok (.invokevirtual 120, 3) := by decide +kernel
theorem dX6_open_69 : decode cX6_open 69 = .ok (.ifCond .eq 5, 3) := by decide +kernel
theorem dX6_open_72 : decode cX6_open 72 = .ok (.iconst 0, 1) := by decide +kernel
theorem dX6_open_73 : decode cX6_open 73 = .ok (.ireturn, 1) := by decide +kernel
theorem dX6_open_74 : decode cX6_open 74 = .ok (.bipush 12, 2) := by decide +kernel
theorem dX6_open_76 : decode cX6_open 76 = .ok (.iload_n 2, 1) := by decide +kernel
theorem dX6_open_77 : decode cX6_open 77 = .ok (.imul, 1) := by decide +kernel
theorem dX6_open_78 : decode cX6_open 78 = .ok (.iload_n 1, 1) := by decide +kernel
theorem dX6_open_79 : decode cX6_open 79 = .ok (.iadd, 1) := by decide +kernel
theorem dX6_open_80 : decode cX6_open 80 = .ok (.istore 5, 2) := by decide +kernel
theorem dX6_open_82 : decode cX6_open 82 = .ok (.aload_n 0, 1) := by decide +kernel
theorem dX6_open_83 : decode cX6_open 83 = .ok (.getfield 44, 3) := by decide +kernel
theorem dX6_open_86 : decode cX6_open 86 = .ok (.iload 5, 2) := by decide +kernel
theorem dX6_open_88 : decode cX6_open 88 = .ok (.iconst 1, 1) := by decide +kernel
theorem dX6_open_89 : decode cX6_open 89 = .ok (.iastore, 1) := by decide +kernel
theorem dX6_open_90 : decode cX6_open 90 = .ok (.aload_n 0, 1) := by decide +kernel
theorem dX6_open_91 : decode cX6_open 91 = .ok (.getfield 47, 3) := by decide +kernel
theorem dX6_open_94 : decode cX6_open 94 = .ok (.iload 5, 2) := by decide +kernel
theorem dX6_open_96 : decode cX6_open 96 = .ok (.aload_n 0, 1) := by decide +kernel
theorem dX6_open_97 : decode cX6_open 97 = .ok (.getfield 35, 3) := by decide +kernel
theorem dX6_open_100 : decode cX6_open 100 = .ok (.iconst 4, 1) := by decide +kernel
theorem dX6_open_101 : decode cX6_open 101 = .ok (.iload_n 2, 1) := by decide +kernel
theorem dX6_open_102 : decode cX6_open 102 = .ok (.imul, 1) := by decide +kernel
theorem dX6_open_103 : decode cX6_open 103 = .ok (.iload_n 1, 1) := by decide +kernel
theorem dX6_open_104 : decode cX6_open 104 = .ok (.iconst 3, 1) := by decide +kernel
theorem dX6_open_105 : decode cX6_open 105 = .ok (.idiv, 1) := by decide +kernel
theorem dX6_open_106 : decode cX6_open 106 = .ok (.iadd, 1) := by decide +kernel
theorem dX6_open_107 : decode cX6_open 107 = .ok (.iaload, 1) := by decide +kernel
theorem dX6_open_108 : decode cX6_open 108 = .ok (.iastore, 1) := by decide +kernel
theorem dX6_open_109 : decode cX6_open 109 = .ok (.aload_n 0, 1) := by decide +kernel
theorem dX6_open_110 : decode cX6_open 110 = .ok (.getfield 47, 3) := by decide +kernel
theorem dX6_open_113 : decode cX6_open 113 = .ok (.iload 5, 2) := by decide +kernel
theorem dX6_open_115 : decode cX6_open 115 = .ok (.iaload, 1) := by decide +kernel
theorem dX6_open_116 : decode cX6_open 116 = .ok (.ireturn, 1) := by decide +kernel
theorem dX6_isSaid_0 : decode cX6_isSaid 0 = .ok (.iload_n 0, 1) := by decide +kernel
theorem dX6_isSaid_1 : decode cX6_isSaid 1 = .ok (.ifCond .ne 16, 3) := by decide +kernel
theorem dX6_isSaid_4 : decode cX6_isSaid 4 = .ok (.iload_n 1, 1) := by decide +kernel
theorem dX6_isSaid_5 : decode cX6_isSaid 5 = .ok (.sipush (-1000), 3) := by decide +kernel
theorem dX6_isSaid_8 : decode cX6_isSaid 8 = .ok (.sipush 1000, 3) := by decide +kernel
theorem dX6_isSaid_11 : decode cX6_isSaid 11 = .ok (.invokestatic 87, 3) := by decide +kernel
theorem dX6_isSaid_14 : decode cX6_isSaid 14 = .ok (.goto 24, 3) := by decide +kernel
theorem dX6_isSaid_17 : decode cX6_isSaid 17 = .ok (.iload_n 0, 1) := by decide +kernel
theorem dX6_isSaid_18 : decode cX6_isSaid 18 = .ok (.iconst 1, 1) := by decide +kernel
theorem dX6_isSaid_19 : decode cX6_isSaid 19 = .ok (.if_icmp .ne 12, 3) := by decide +kernel
theorem dX6_isSaid_22 : decode cX6_isSaid 22 = .ok (.iload_n 1, 1) := by decide +kernel
theorem dX6_isSaid_23 : decode cX6_isSaid 23 = .ok (.iconst 0, 1) := by decide +kernel
theorem dX6_isSaid_24 : decode cX6_isSaid 24 = .ok (.iconst 4, 1) := by decide +kernel
theorem dX6_isSaid_25 : decode cX6_isSaid 25 = .ok (.invokestatic 87, 3) := by decide +kernel
theorem dX6_isSaid_28 : decode cX6_isSaid 28 = .ok (.goto 10, 3) := by decide +kernel
theorem dX6_isSaid_31 : decode cX6_isSaid 31 = .ok (.iload_n 1, 1) := by decide +kernel
theorem dX6_isSaid_32 : decode cX6_isSaid 32 = .ok (.iconst 1, 1) := by decide +kernel
theorem dX6_isSaid_33 : decode cX6_isSaid 33 = .ok (.bipush 31, 2) := by decide +kernel
theorem dX6_isSaid_35 : decode cX6_isSaid 35 = .ok (.invokestatic 87, 3) := by decide +kernel
theorem dX6_isSaid_38 : decode cX6_isSaid 38 = .ok (.ireturn, 1) := by decide +kernel
theorem dX6_more_0 : decode cX6_more 0 = .ok (.iload_n 1, 1) := by decide +kernel
theorem dX6_more_1 : decode cX6_more 1 = .ok (.ifCond .ne 18, 3) := by decide +kernel
theorem dX6_more_4 : decode cX6_more 4 = .ok (.aload_n 0, 1) := by decide +kernel
theorem dX6_more_5 : decode cX6_more 5 = .ok (.getfield 56, 3) := by decide +kernel
theorem dX6_more_8 : decode cX6_more 8 = .ok (.iload_n 2, 1) := by decide +kernel
theorem dX6_more_9 : decode cX6_more 9 = .ok (.baload, 1) := by decide +kernel
theorem dX6_more_10 : decode cX6_more 10 = .ok (.ifCond .eq 7, 3) := by decide +kernel
theorem dX6_more_13 : decode cX6_more 13 = .ok (.iconst 0, 1) := by decide +kernel
theorem dX6_more_14 : decode cX6_more 14 = .ok (.goto 4, 3) := by decide +kernel
theorem dX6_more_17 : decode cX6_more 17 = .ok (.iconst 1, 1) := by decide +kernel
theorem dX6_more_18 : decode cX6_more 18 = .ok (.ireturn, 1) := by decide +kernel
theorem dX6_more_19 : decode cX6_more 19 = .ok (.iload_n 1, 1) := by decide +kernel
theorem dX6_more_20 : decode cX6_more 20 = .ok (.iconst 1, 1) := by decide +kernel
theorem dX6_more_21 : decode cX6_more 21 = .ok (.if_icmp .ne 41, 3) := by decide +kernel
theorem dX6_more_24 : decode cX6_more 24 = .ok (.aload_n 0, 1) := by decide +kernel
theorem dX6_more_25 : decode cX6_more 25 = .ok (.getfield 62, 3) := by decide +kernel
theorem dX6_more_28 : decode cX6_more 28 = .ok (.iload_n 2, 1) := by decide +kernel
theorem dX6_more_29 : decode cX6_more 29 = .ok (.iaload, 1) := by decide +kernel
theorem dX6_more_30 : decode cX6_more 30 = .ok (.iconst 1, 1) := by decide +kernel
theorem dX6_more_31 : decode cX6_more 31 = .ok (.iload_n 3, 1) := by decide +kernel
theorem dX6_more_32 : decode cX6_more 32 = .ok (.ishl, 1) := by decide +kernel
theorem dX6_more_33 : decode cX6_more 33 = .ok (.ixor, 1) := by decide +kernel
theorem dX6_more_34 : decode cX6_more 34 = .ok (.istore 4, 2) := by decide +kernel
theorem dX6_more_36 : decode cX6_more 36 = .ok (.iload 4, 2) := by decide +kernel
theorem dX6_more_38 : decode cX6_more 38 = .ok (.ifCond .ne 7, 3) := by decide +kernel
theorem dX6_more_41 : decode cX6_more 41 = .ok (.iconst 0, 1) := by decide +kernel
theorem dX6_more_42 : decode cX6_more 42 = .ok (.goto 4, 3) := by decide +kernel
theorem dX6_more_45 : decode cX6_more 45 = .ok (.iconst 1, 1) := by decide +kernel
theorem dX6_more_46 : decode cX6_more 46 = .ok (.aload_n 0, 1) := by decide +kernel
theorem dX6_more_47 : decode cX6_more 47 = .ok (.getfield 62, 3) := by decide +kernel
theorem dX6_more_50 : decode cX6_more 50 = .ok (.iload_n 2, 1) := by decide +kernel
theorem dX6_more_51 : decode cX6_more 51 = .ok (.iaload, 1) := by decide +kernel
theorem dX6_more_52 : decode cX6_more 52 = .ok (.ifCond .ne 7, 3) := by decide +kernel
theorem dX6_more_55 : decode cX6_more 55 = .ok (.iconst 0, 1) := by decide +kernel
theorem dX6_more_56 : decode cX6_more 56 = .ok (.goto 4, 3) := by decide +kernel
theorem dX6_more_59 : decode cX6_more 59 = .ok (.iconst 1, 1) := by decide +kernel
theorem dX6_more_60 : decode cX6_more 60 = .ok (.isub, 1) := by decide +kernel
theorem dX6_more_61 : decode cX6_more 61 = .ok (.ireturn, 1) := by decide +kernel
theorem dX6_more_62 : decode cX6_more 62 = .ok (.aload_n 0, 1) := by decide +kernel
theorem dX6_more_63 : decode cX6_more 63 = .ok (.getfield 65, 3) := by decide +kernel
theorem dX6_more_66 : decode cX6_more 66 = .ok (.iload_n 2, 1) := by decide +kernel
theorem dX6_more_67 : decode cX6_more 67 = .ok (.iaload, 1) := by decide +kernel
theorem dX6_more_68 : decode cX6_more 68 = .ok (.bipush 12, 2) := by decide +kernel
theorem dX6_more_70 : decode cX6_more 70 = .ok (.if_icmp .ne 8, 3) := by decide +kernel
theorem dX6_more_73 : decode cX6_more 73 = .ok (.bipush 99, 2) := by decide +kernel
theorem dX6_more_75 : decode cX6_more 75 = .ok (.goto 4, 3) := by decide +kernel
theorem dX6_more_78 : decode cX6_more 78 = .ok (.iconst 1, 1) := by decide +kernel
theorem dX6_more_79 : decode cX6_more 79 = .ok (.ireturn, 1) := by decide +kernel
theorem dX6_say_0 : decode cX6_say 0 = .ok (.aload_n 0, 1) := by decide +kernel
theorem dX6_say_1 : decode cX6_say 1 = .ok (.iload_n 1, 1) := by decide +kernel
theorem dX6_say_2 : decode cX6_say 2 = .ok (.iload_n 2, 1) := by decide +kernel
theorem dX6_say_3 : decode cX6_say 3 = .ok (.invokevirtual 196, 3) := by decide +kernel
theorem dX6_say_6 : decode cX6_say 6 = .ok (.ifCond .eq 14, 3) := by decide +kernel
theorem dX6_say_9 : decode cX6_say 9 = .ok (.iload_n 3, 1) := by decide +kernel
theorem dX6_say_10 : decode cX6_say 10 = .ok (.invokestatic 130, 3) := by decide +kernel
theorem dX6_say_13 : decode cX6_say 13 = .ok (.ifCond .eq 7, 3) := by decide +kernel
theorem dX6_say_16 : decode cX6_say 16 = .ok (.iconst 1, 1) := by decide +kernel
theorem dX6_say_17 : decode cX6_say 17 = .ok (.goto 4, 3) := by decide +kernel
theorem dX6_say_20 : decode cX6_say 20 = .ok (.iconst 0, 1) := by decide +kernel
theorem dX6_say_21 : decode cX6_say 21 = .ok (.istore 5, 2) := by decide +kernel
theorem dX6_say_23 : decode cX6_say 23 = .ok (.iload 5, 2) := by decide +kernel
theorem dX6_say_25 : decode cX6_say 25 = .ok (.ifCond .eq 12, 3) := by decide +kernel
theorem dX6_say_28 : decode cX6_say 28 = .ok (.bipush 12, 2) := by decide +kernel
theorem dX6_say_30 : decode cX6_say 30 = .ok (.iload_n 2, 1) := by decide +kernel
theorem dX6_say_31 : decode cX6_say 31 = .ok (.imul, 1) := by decide +kernel
theorem dX6_say_32 : decode cX6_say 32 = .ok (.iload_n 1, 1) := by decide +kernel
theorem dX6_say_33 : decode cX6_say 33 = .ok (.iadd, 1) := by decide +kernel
theorem dX6_say_34 : decode cX6_say 34 = .ok (.goto 4, 3) := by decide +kernel
theorem dX6_say_37 : decode cX6_say 37 = .ok (.iconst 0, 1) := by decide +kernel
theorem dX6_say_38 : decode cX6_say 38 = .ok (.istore 6, 2) := by decide +kernel
theorem dX6_say_40 : decode cX6_say 40 = .ok (.iload 5, 2) := by decide +kernel
theorem dX6_say_42 : decode cX6_say 42 = .ok (.ifCond .eq 30, 3) := by decide +kernel
theorem dX6_say_45 : decode cX6_say 45 = .ok (.aload_n 0, 1) := by decide +kernel
theorem dX6_say_46 : decode cX6_say 46 = .ok (.getfield 44, 3) := by decide +kernel
theorem dX6_say_49 : decode cX6_say 49 = .ok (.iload 6, 2) := by decide +kernel
theorem dX6_say_51 : decode cX6_say 51 = .ok (.iaload, 1) := by decide +kernel
theorem dX6_say_52 : decode cX6_say 52 = .ok (.iconst 1, 1) := by decide +kernel
theorem dX6_say_53 : decode cX6_say 53 = .ok (.if_icmp .ne 19, 3) := by decide +kernel
theorem dX6_say_56 : decode cX6_say 56 = .ok (.aload_n 0, 1) := by decide +kernel
theorem dX6_say_57 : decode cX6_say 57 = .ok (.iload_n 2, 1) := by decide +kernel
theorem dX6_say_58 : decode cX6_say 58 = .ok (.aload_n 0, 1) := by decide +kernel
theorem dX6_say_59 : decode cX6_say 59 = .ok (.getfield 47, 3) := by decide +kernel
theorem dX6_say_62 : decode cX6_say 62 = .ok (.iload 6, 2) := by decide +kernel
theorem dX6_say_64 : decode cX6_say 64 = .ok (.iaload, 1) := by decide +kernel
theorem dX6_say_65 : decode cX6_say 65 = .ok (.iload_n 3, 1) := by decide +kernel
theorem dX6_say_66 : decode cX6_say 66 = .ok (.invokevirtual 146, 3) := by decide +kernel
theorem dX6_say_69 : decode cX6_say 69 = .ok (.goto 4, 3) := by decide +kernel
theorem dX6_say_72 : decode cX6_say 72 = .ok (.iconst (-1), 1) := by decide +kernel
theorem dX6_say_73 : decode cX6_say 73 = .ok (.istore 7, 2) := by decide +kernel
theorem dX6_say_75 : decode cX6_say 75 = .ok (.iload 7, 2) := by decide +kernel
theorem dX6_say_77 : decode cX6_say 77 = .ok (.iconst (-1), 1) := by decide +kernel
theorem dX6_say_78 : decode cX6_say 78 = .ok (.if_icmp .eq 18, 3) := by decide +kernel
theorem dX6_say_81 : decode cX6_say 81 = .ok (.aload_n 0, 1) := by decide +kernel
theorem dX6_say_82 : decode cX6_say 82 = .ok (.getfield 23, 3) := by decide +kernel
theorem dX6_say_85 : decode cX6_say 85 = .ok (.iload 7, 2) := by decide +kernel
theorem dX6_say_87 : decode cX6_say 87 = .ok (.iaload, 1) := by decide +kernel
theorem dX6_say_88 : decode cX6_say 88 = .ok (.iload 4, 2) := by decide +kernel
theorem dX6_say_90 : decode cX6_say 90 = .ok (.invokestatic 199, 3) := by decide +kernel
theorem dX6_say_93 : decode cX6_say 93 = .ok (.ifCond .eq 7, 3) := by decide +kernel
theorem dX6_say_96 : decode cX6_say 96 = .ok (.iconst 1, 1) := by decide +kernel
theorem dX6_say_97 : decode cX6_say 97 = .ok (.goto 4, 3) := by decide +kernel
theorem dX6_say_100 : decode cX6_say 100 = .ok (.iconst 0, 1) := by decide +kernel
theorem dX6_say_101 : decode cX6_say 101 = .ok (.istore 8, 2) := by decide +kernel
theorem dX6_say_103 : decode cX6_say 103 = .ok (.iconst 5, 1) := by decide +kernel
theorem dX6_say_104 : decode cX6_say 104 = .ok (.iload 6, 2) := by decide +kernel
theorem dX6_say_106 : decode cX6_say 106 = .ok (.imul, 1) := by decide +kernel
theorem dX6_say_107 : decode cX6_say 107 = .ok (.iload 5, 2) := by decide +kernel
theorem dX6_say_109 : decode cX6_say 109 = .ok (.ifCond .eq 7, 3) := by decide +kernel
theorem dX6_say_112 : decode cX6_say 112 = .ok (.iload_n 3, 1) := by decide +kernel
theorem dX6_say_113 : decode cX6_say 113 = .ok (.goto 4, 3) := by decide +kernel
theorem dX6_say_116 : decode cX6_say 116 = .ok (.iconst 0, 1) := by decide +kernel
theorem dX6_say_117 : decode cX6_say 117 = .ok (.iadd, 1) := by decide +kernel
theorem dX6_say_118 : decode cX6_say 118 = .ok (.istore 9, 2) := by decide +kernel
theorem dX6_say_120 : decode cX6_say 120 = .ok (.iload 7, 2) := by decide +kernel
theorem dX6_say_122 : decode cX6_say 122 = .ok (.iconst (-1), 1) := by decide +kernel
theorem dX6_say_123 : decode cX6_say 123 = .ok (.if_icmp .eq 8, 3) := by decide +kernel
theorem dX6_say_126 : decode cX6_say 126 = .ok (.iload 8, 2) := by decide +kernel
theorem dX6_say_128 : decode cX6_say 128 = .ok (.ifCond .ne 8, 3) := by decide +kernel
theorem dX6_say_131 : decode cX6_say 131 = .ok (.bipush 99, 2) := by decide +kernel
theorem dX6_say_133 : decode cX6_say 133 = .ok (.goto 18, 3) := by decide +kernel
theorem dX6_say_136 : decode cX6_say 136 = .ok (.aload_n 0, 1) := by decide +kernel
theorem dX6_say_137 : decode cX6_say 137 = .ok (.aload_n 0, 1) := by decide +kernel
theorem dX6_say_138 : decode cX6_say 138 = .ok (.getfield 23, 3) := by decide +kernel
theorem dX6_say_141 : decode cX6_say 141 = .ok (.iload 7, 2) := by decide +kernel
theorem dX6_say_143 : decode cX6_say 143 = .ok (.iaload, 1) := by decide +kernel
theorem dX6_say_144 : decode cX6_say 144 = .ok (.iload 9, 2) := by decide +kernel
theorem dX6_say_146 : decode cX6_say 146 = .ok (.iload 4, 2) := by decide +kernel
theorem dX6_say_148 : decode cX6_say 148 = .ok (.invokevirtual 202, 3) := by decide +kernel
theorem dX6_say_151 : decode cX6_say 151 = .ok (.istore 10, 2) := by decide +kernel
theorem dX6_say_153 : decode cX6_say 153 = .ok (.aload_n 0, 1) := by decide +kernel
theorem dX6_say_154 : decode cX6_say 154 = .ok (.iload 5, 2) := by decide +kernel
theorem dX6_say_156 : decode cX6_say 156 = .ok (.ifCond .ne 7, 3) := by decide +kernel
theorem dX6_say_159 : decode cX6_say 159 = .ok (.iconst 1, 1) := by decide +kernel
theorem dX6_say_160 : decode cX6_say 160 = .ok (.goto 36, 3) := by decide +kernel
theorem dX6_say_163 : decode cX6_say 163 = .ok (.iload 8, 2) := by decide +kernel
theorem dX6_say_165 : decode cX6_say 165 = .ok (.ifCond .ne 7, 3) := by decide +kernel
theorem dX6_say_168 : decode cX6_say 168 = .ok (.iconst 2, 1) := by decide +kernel
theorem dX6_say_169 : decode cX6_say 169 = .ok (.goto 27, 3) := by decide +kernel
theorem dX6_say_172 : decode cX6_say 172 = .ok (.iload 10, 2) := by decide +kernel
theorem dX6_say_174 : decode cX6_say 174 = .ok (.bipush 99, 2) := by decide +kernel
theorem dX6_say_176 : decode cX6_say 176 = .ok (.if_icmp .eq 19, 3) := by decide +kernel
theorem dX6_say_179 : decode cX6_say 179 = .ok (.aload_n 0, 1) := by decide +kernel
theorem dX6_say_180 : decode cX6_say 180 = .ok (.iload_n 1, 1) := by decide +kernel
theorem dX6_say_181 : decode cX6_say 181 = .ok (.iconst 3, 1) := by decide +kernel
theorem dX6_say_182 : decode cX6_say 182 = .ok (.idiv, 1) := by decide +kernel
theorem dX6_say_183 : decode cX6_say 183 = .ok (.iload 10, 2) := by decide +kernel
theorem dX6_say_185 : decode cX6_say 185 = .ok (.invokevirtual 123, 3) := by decide +kernel
theorem dX6_say_188 : decode cX6_say 188 = .ok (.ifCond .eq 7, 3) := by decide +kernel
theorem dX6_say_191 : decode cX6_say 191 = .ok (.iconst 0, 1) := by decide +kernel
theorem dX6_say_192 : decode cX6_say 192 = .ok (.goto 4, 3) := by decide +kernel
theorem dX6_say_195 : decode cX6_say 195 = .ok (.iconst 3, 1) := by decide +kernel
theorem dX6_say_196 : decode cX6_say 196 = .ok (.invokevirtual 120, 3) := by decide +kernel
theorem dX6_say_199 : decode cX6_say 199 = .ok (.ifCond .eq 5, 3) := by decide +kernel
theorem dX6_say_202 : decode cX6_say 202 = .ok (.iconst 0, 1) := by decide +kernel
theorem dX6_say_203 : decode cX6_say 203 = .ok (.ireturn, 1) := by decide +kernel
theorem dX6_say_204 : decode cX6_say 204 = .ok (.aload_n 0, 1) := by decide +kernel
theorem dX6_say_205 : decode cX6_say 205 = .ok (.getfield 23, 3) := by decide +kernel
theorem dX6_say_208 : decode cX6_say 208 = .ok (.iload 7, 2) := by decide +kernel
theorem dX6_say_210 : decode cX6_say 210 = .ok (.iaload, 1) := by decide +kernel
theorem dX6_say_211 : decode cX6_say 211 = .ok (.ifCond .ne 23, 3) := by decide +kernel
theorem dX6_say_214 : decode cX6_say 214 = .ok (.aload_n 0, 1) := by decide +kernel
theorem dX6_say_215 : decode cX6_say 215 = .ok (.getfield 56, 3) := by decide +kernel
theorem dX6_say_218 : decode cX6_say 218 = .ok (.iload 9, 2) := by decide +kernel
theorem dX6_say_220 : decode cX6_say 220 = .ok (.iconst 1, 1) := by decide +kernel
theorem dX6_say_221 : decode cX6_say 221 = .ok (.bastore, 1) := by decide +kernel
theorem dX6_say_222 : decode cX6_say 222 = .ok (.aload_n 0, 1) := by decide +kernel
theorem dX6_say_223 : decode cX6_say 223 = .ok (.getfield 59, 3) := by decide +kernel
theorem dX6_say_226 : decode cX6_say 226 = .ok (.iload 9, 2) := by decide +kernel
theorem dX6_say_228 : decode cX6_say 228 = .ok (.iload 4, 2) := by decide +kernel
theorem dX6_say_230 : decode cX6_say 230 = .ok (.iastore, 1) := by decide +kernel
theorem dX6_say_231 : decode cX6_say 231 = .ok (.goto 62, 3) := by decide +kernel
theorem dX6_say_234 : decode cX6_say 234 = .ok (.aload_n 0, 1) := by decide +kernel
theorem dX6_say_235 : decode cX6_say 235 = .ok (.getfield 23, 3) := by decide +kernel
theorem dX6_say_238 : decode cX6_say 238 = .ok (.iload 7, 2) := by decide +kernel
theorem dX6_say_240 : decode cX6_say 240 = .ok (.iaload, 1) := by decide +kernel
theorem dX6_say_241 : decode cX6_say 241 = .ok (.iconst 1, 1) := by decide +kernel
theorem dX6_say_242 : decode cX6_say 242 = .ok (.if_icmp .ne 20, 3) := by decide +kernel
theorem dX6_say_245 : decode cX6_say 245 = .ok (.aload_n 0, 1) := by decide +kernel
theorem dX6_say_246 : decode cX6_say 246 = .ok (.getfield 62, 3) := by decide +kernel
theorem dX6_say_249 : decode cX6_say 249 = .ok (.iload 9, 2) := by decide +kernel
theorem dX6_say_251 : decode cX6_say 251 = .ok (.dup2, 1) := by decide +kernel
theorem dX6_say_252 : decode cX6_say 252 = .ok (.iaload, 1) := by decide +kernel
theorem dX6_say_253 : decode cX6_say 253 = .ok (.iconst 1, 1) := by decide +kernel
theorem dX6_say_254 : decode cX6_say 254 = .ok (.iload 4, 2) := by decide +kernel
theorem dX6_say_256 : decode cX6_say 256 = .ok (.ishl, 1) := by decide +kernel
theorem dX6_say_257 : decode cX6_say 257 = .ok (.ixor, 1) := by decide +kernel
theorem dX6_say_258 : decode cX6_say 258 = .ok (.iastore, 1) := by decide +kernel
theorem dX6_say_259 : decode cX6_say 259 = .ok (.goto 34, 3) := by decide +kernel
theorem dX6_say_262 : decode cX6_say 262 = .ok (.aload_n 0, 1) := by decide +kernel
theorem dX6_say_263 : decode cX6_say 263 = .ok (.getfield 68, 3) := by decide +kernel
theorem dX6_say_266 : decode cX6_say 266 = .ok (.bipush 12, 2) := by decide +kernel
theorem dX6_say_268 : decode cX6_say 268 = .ok (.iload 9, 2) := by decide +kernel
theorem dX6_say_270 : decode cX6_say 270 = .ok (.imul, 1) := by decide +kernel
theorem dX6_say_271 : decode cX6_say 271 = .ok (.aload_n 0, 1) := by decide +kernel
theorem dX6_say_272 : decode cX6_say 272 = .ok (.getfield 65, 3) := by decide +kernel
theorem dX6_say_275 : decode cX6_say 275 = .ok (.iload 9, 2) := by decide +kernel
theorem dX6_say_277 : decode cX6_say 277 = .ok (.iaload, 1) := by decide +kernel
theorem dX6_say_278 : decode cX6_say 278 = .ok (.iadd, 1) := by decide +kernel
theorem dX6_say_279 : decode cX6_say 279 = .ok (.iload 4, 2) := by decide +kernel
theorem dX6_say_281 : decode cX6_say 281 = .ok (.iastore, 1) := by decide +kernel
theorem dX6_say_282 : decode cX6_say 282 = .ok (.aload_n 0, 1) := by decide +kernel
theorem dX6_say_283 : decode cX6_say 283 = .ok (.getfield 65, 3) := by decide +kernel
theorem dX6_say_286 : decode cX6_say 286 = .ok (.iload 9, 2) := by decide +kernel
theorem dX6_say_288 : decode cX6_say 288 = .ok (.dup2, 1) := by decide +kernel
theorem dX6_say_289 : decode cX6_say 289 = .ok (.iaload, 1) := by decide +kernel
theorem dX6_say_290 : decode cX6_say 290 = .ok (.iconst 1, 1) := by decide +kernel
theorem dX6_say_291 : decode cX6_say 291 = .ok (.iadd, 1) := by decide +kernel
theorem dX6_say_292 : decode cX6_say 292 = .ok (.iastore, 1) := by decide +kernel
theorem dX6_say_293 : decode cX6_say 293 = .ok (.aload_n 0, 1) := by decide +kernel
theorem dX6_say_294 : decode cX6_say 294 = .ok (.iload 6, 2) := by decide +kernel
theorem dX6_say_296 : decode cX6_say 296 = .ok (.invokevirtual 114, 3) := by decide +kernel
theorem dX6_say_299 : decode cX6_say 299 = .ok (.ireturn, 1) := by decide +kernel
theorem dX6_hand_0 : decode cX6_hand 0 = .ok (.aload_n 0, 1) := by decide +kernel
theorem dX6_hand_1 : decode cX6_hand 1 = .ok (.iload_n 1, 1) := by decide +kernel
theorem dX6_hand_2 : decode cX6_hand 2 = .ok (.iload_n 2, 1) := by decide +kernel
theorem dX6_hand_3 : decode cX6_hand 3 = .ok (.invokevirtual 196, 3) := by decide +kernel
theorem dX6_hand_6 : decode cX6_hand 6 = .ok (.istore_n 3, 1) := by decide +kernel
theorem dX6_hand_7 : decode cX6_hand 7 = .ok (.aload_n 0, 1) := by decide +kernel
theorem dX6_hand_8 : decode cX6_hand 8 = .ok (.iload_n 3, 1) := by decide +kernel
theorem dX6_hand_9 : decode cX6_hand 9 = .ok (.ifCond .ne 7, 3) := by decide +kernel
theorem dX6_hand_12 : decode cX6_hand 12 = .ok (.iconst 1, 1) := by decide +kernel
theorem dX6_hand_13 : decode cX6_hand 13 = .ok (.goto 23, 3) := by decide +kernel
theorem dX6_hand_16 : decode cX6_hand 16 = .ok (.aload_n 0, 1) := by decide +kernel
theorem dX6_hand_17 : decode cX6_hand 17 = .ok (.getfield 44, 3) := by decide +kernel
theorem dX6_hand_20 : decode cX6_hand 20 = .ok (.bipush 12, 2) := by decide +kernel
theorem dX6_hand_22 : decode cX6_hand 22 = .ok (.iload_n 2, 1) := by decide +kernel
theorem dX6_hand_23 : decode cX6_hand 23 = .ok (.imul, 1) := by decide +kernel
theorem dX6_hand_24 : decode cX6_hand 24 = .ok (.iload_n 1, 1) := by decide +kernel
theorem dX6_hand_25 : decode cX6_hand 25 = .ok (.iadd, 1) := by decide +kernel
theorem dX6_hand_26 : decode cX6_hand 26 = .ok (.iaload, 1) := by decide +kernel
theorem dX6_hand_27 : decode cX6_hand 27 = .ok (.iconst 1, 1) := by decide +kernel
theorem dX6_hand_28 : decode cX6_hand 28 = .ok (.if_icmp .ne 7, 3) := by decide +kernel
theorem dX6_hand_31 : decode cX6_hand 31 = .ok (.iconst 0, 1) := by decide +kernel
theorem dX6_hand_32 : decode cX6_hand 32 = .ok (.goto 4, 3) := by decide +kernel
theorem dX6_hand_35 : decode cX6_hand 35 = .ok (.iconst 2, 1) := by decide +kernel
theorem dX6_hand_36 : decode cX6_hand 36 = .ok (.invokevirtual 120, 3) := by decide +kernel
theorem dX6_hand_39 : decode cX6_hand 39 = .ok (.ifCond .eq 5, 3) := by decide +kernel
theorem dX6_hand_42 : decode cX6_hand 42 = .ok (.iconst 0, 1) := by decide +kernel
theorem dX6_hand_43 : decode cX6_hand 43 = .ok (.ireturn, 1) := by decide +kernel
theorem dX6_hand_44 : decode cX6_hand 44 = .ok (.bipush 12, 2) := by decide +kernel
theorem dX6_hand_46 : decode cX6_hand 46 = .ok (.iload_n 2, 1) := by decide +kernel
theorem dX6_hand_47 : decode cX6_hand 47 = .ok (.imul, 1) := by decide +kernel
theorem dX6_hand_48 : decode cX6_hand 48 = .ok (.iload_n 1, 1) := by decide +kernel
theorem dX6_hand_49 : decode cX6_hand 49 = .ok (.iadd, 1) := by decide +kernel
theorem dX6_hand_50 : decode cX6_hand 50 = .ok (.istore 4, 2) := by decide +kernel
theorem dX6_hand_52 : decode cX6_hand 52 = .ok (.aload_n 0, 1) := by decide +kernel
theorem dX6_hand_53 : decode cX6_hand 53 = .ok (.getfield 44, 3) := by decide +kernel
theorem dX6_hand_56 : decode cX6_hand 56 = .ok (.iload 4, 2) := by decide +kernel
theorem dX6_hand_58 : decode cX6_hand 58 = .ok (.iconst 2, 1) := by decide +kernel
theorem dX6_hand_59 : decode cX6_hand 59 = .ok (.iastore, 1) := by decide +kernel
theorem dX6_hand_60 : decode cX6_hand 60 = .ok (.aload_n 0, 1) := by decide +kernel
theorem dX6_hand_61 : decode cX6_hand 61 = .ok (.getfield 50, 3) := by decide +kernel
theorem dX6_hand_64 : decode cX6_hand 64 = .ok (.iload 4, 2) := by decide +kernel
theorem dX6_hand_66 : decode cX6_hand 66 = .ok (.aload_n 0, 1) := by decide +kernel
theorem dX6_hand_67 : decode cX6_hand 67 = .ok (.iload 4, 2) := by decide +kernel
theorem dX6_hand_69 : decode cX6_hand 69 = .ok (.invokevirtual 180, 3) := by decide +kernel
theorem dX6_hand_72 : decode cX6_hand 72 = .ok (.iastore, 1) := by decide +kernel
theorem dX6_hand_73 : decode cX6_hand 73 = .ok (.aload_n 0, 1) := by decide +kernel
theorem dX6_hand_74 : decode cX6_hand 74 = .ok (.getfield 50, 3) := by decide +kernel
theorem dX6_hand_77 : decode cX6_hand 77 = .ok (.iload 4, 2) := by decide +kernel
theorem dX6_hand_79 : decode cX6_hand 79 = .ok (.iaload, 1) := by decide +kernel
theorem dX6_hand_80 : decode cX6_hand 80 = .ok (.ireturn, 1) := by decide +kernel
theorem dX6_close_0 : decode cX6_close 0 = .ok (.iload_n 1, 1) := by decide +kernel
theorem dX6_close_1 : decode cX6_close 1 = .ok (.invokestatic 127, 3) := by decide +kernel
theorem dX6_close_4 : decode cX6_close 4 = .ok (.ifCond .eq 15, 3) := by decide +kernel
theorem dX6_close_7 : decode cX6_close 7 = .ok (.aload_n 0, 1) := by decide +kernel
theorem dX6_close_8 : decode cX6_close 8 = .ok (.iload_n 2, 1) := by decide +kernel
theorem dX6_close_9 : decode cX6_close 9 = .ok (.invokevirtual 94, 3) := by decide +kernel
theorem dX6_close_12 : decode cX6_close 12 = .ok (.ifCond .eq 7, 3) := by decide +kernel
theorem dX6_close_15 : decode cX6_close 15 = .ok (.iconst 1, 1) := by decide +kernel
theorem dX6_close_16 : decode cX6_close 16 = .ok (.goto 4, 3) := by decide +kernel
theorem dX6_close_19 : decode cX6_close 19 = .ok (.iconst 0, 1) := by decide +kernel
theorem dX6_close_20 : decode cX6_close 20 = .ok (.istore_n 3, 1) := by decide +kernel
theorem dX6_close_21 : decode cX6_close 21 = .ok (.aload_n 0, 1) := by decide +kernel
theorem dX6_close_22 : decode cX6_close 22 = .ok (.iload_n 3, 1) := by decide +kernel
theorem dX6_close_23 : decode cX6_close 23 = .ok (.ifCond .ne 7, 3) := by decide +kernel
theorem dX6_close_26 : decode cX6_close 26 = .ok (.iconst 1, 1) := by decide +kernel
theorem dX6_close_27 : decode cX6_close 27 = .ok (.goto 21, 3) := by decide +kernel
theorem dX6_close_30 : decode cX6_close 30 = .ok (.aload_n 0, 1) := by decide +kernel
theorem dX6_close_31 : decode cX6_close 31 = .ok (.getfield 38, 3) := by decide +kernel
theorem dX6_close_34 : decode cX6_close 34 = .ok (.iconst 4, 1) := by decide +kernel
theorem dX6_close_35 : decode cX6_close 35 = .ok (.iload_n 2, 1) := by decide +kernel
theorem dX6_close_36 : decode cX6_close 36 = .ok (.imul, 1) := by decide +kernel
theorem dX6_close_37 : decode cX6_close 37 = .ok (.iload_n 1, 1) := by decide +kernel
theorem dX6_close_38 : decode cX6_close 38 = .ok (.iadd, 1) := by decide +kernel
theorem dX6_close_39 : decode cX6_close 39 = .ok (.baload, 1) := by decide +kernel
theorem dX6_close_40 : decode cX6_close 40 = .ok (.ifCond .eq 7, 3) := by decide +kernel
theorem dX6_close_43 : decode cX6_close 43 = .ok (.iconst 2, 1) := by decide +kernel
theorem dX6_close_44 : decode cX6_close 44 = .ok (.goto 4, 3) := by decide +kernel
theorem dX6_close_47 : decode cX6_close 47 = .ok (.iconst 0, 1) := by decide +kernel
theorem dX6_close_48 : decode cX6_close 48 = .ok (.invokevirtual 120, 3) := by decide +kernel
theorem dX6_close_51 : decode cX6_close 51 = .ok (.ifCond .eq 5, 3) := by decide +kernel
theorem dX6_close_54 : decode cX6_close 54 = .ok (.iconst 0, 1) := by decide +kernel
theorem dX6_close_55 : decode cX6_close 55 = .ok (.ireturn, 1) := by decide +kernel
theorem dX6_close_56 : decode cX6_close 56 = .ok (.aload_n 0, 1) := by decide +kernel
theorem dX6_close_57 : decode cX6_close 57 = .ok (.getfield 38, 3) := by decide +kernel
theorem dX6_close_60 : decode cX6_close 60 = .ok (.iconst 4, 1) := by decide +kernel
theorem dX6_close_61 : decode cX6_close 61 = .ok (.iload_n 2, 1) := by decide +kernel
theorem dX6_close_62 : decode cX6_close 62 = .ok (.imul, 1) := by decide +kernel
theorem dX6_close_63 : decode cX6_close 63 = .ok (.iload_n 1, 1) := by decide +kernel
theorem dX6_close_64 : decode cX6_close 64 = .ok (.iadd, 1) := by decide +kernel
theorem dX6_close_65 : decode cX6_close 65 = .ok (.iconst 1, 1) := by decide +kernel
theorem dX6_close_66 : decode cX6_close 66 = .ok (.bastore, 1) := by decide +kernel
theorem dX6_close_67 : decode cX6_close 67 = .ok (.iconst 0, 1) := by decide +kernel
theorem dX6_close_68 : decode cX6_close 68 = .ok (.istore 4, 2) := by decide +kernel
theorem dX6_close_70 : decode cX6_close 70 = .ok (.bipush 12, 2) := by decide +kernel
theorem dX6_close_72 : decode cX6_close 72 = .ok (.iload_n 2, 1) := by decide +kernel
theorem dX6_close_73 : decode cX6_close 73 = .ok (.imul, 1) := by decide +kernel
theorem dX6_close_74 : decode cX6_close 74 = .ok (.iconst 3, 1) := by decide +kernel
theorem dX6_close_75 : decode cX6_close 75 = .ok (.iload_n 1, 1) := by decide +kernel
theorem dX6_close_76 : decode cX6_close 76 = .ok (.imul, 1) := by decide +kernel
theorem dX6_close_77 : decode cX6_close 77 = .ok (.iadd, 1) := by decide +kernel
theorem dX6_close_78 : decode cX6_close 78 = .ok (.istore 5, 2) := by decide +kernel
theorem dX6_close_80 : decode cX6_close 80 = .ok (.iload 5, 2) := by decide +kernel
theorem dX6_close_82 : decode cX6_close 82 = .ok (.bipush 12, 2) := by decide +kernel
theorem dX6_close_84 : decode cX6_close 84 = .ok (.iload_n 2, 1) := by decide +kernel
theorem dX6_close_85 : decode cX6_close 85 = .ok (.imul, 1) := by decide +kernel
theorem dX6_close_86 : decode cX6_close 86 = .ok (.iconst 3, 1) := by decide +kernel
theorem dX6_close_87 : decode cX6_close 87 = .ok (.iload_n 1, 1) := by decide +kernel
theorem dX6_close_88 : decode cX6_close 88 = .ok (.imul, 1) := by decide +kernel
theorem dX6_close_89 : decode cX6_close 89 = .ok (.iadd, 1) := by decide +kernel
theorem dX6_close_90 : decode cX6_close 90 = .ok (.iconst 3, 1) := by decide +kernel
theorem dX6_close_91 : decode cX6_close 91 = .ok (.iadd, 1) := by decide +kernel
theorem dX6_close_92 : decode cX6_close 92 = .ok (.if_icmp .ge 47, 3) := by decide +kernel
theorem dX6_close_95 : decode cX6_close 95 = .ok (.iload 4, 2) := by decide +kernel
theorem dX6_close_97 : decode cX6_close 97 = .ok (.aload_n 0, 1) := by decide +kernel
theorem dX6_close_98 : decode cX6_close 98 = .ok (.getfield 44, 3) := by decide +kernel
theorem dX6_close_101 : decode cX6_close 101 = .ok (.iload 5, 2) := by decide +kernel
theorem dX6_close_103 : decode cX6_close 103 = .ok (.iaload, 1) := by decide +kernel
theorem dX6_close_104 : decode cX6_close 104 = .ok (.iconst 2, 1) := by decide +kernel
theorem dX6_close_105 : decode cX6_close 105 = .ok (.if_icmp .ne 7, 3) := by decide +kernel
theorem dX6_close_108 : decode cX6_close 108 = .ok (.iconst 1, 1) := by decide +kernel
theorem dX6_close_109 : decode cX6_close 109 = .ok (.goto 4, 3) := by decide +kernel
theorem dX6_close_112 : decode cX6_close 112 = .ok (.iconst 0, 1) := by decide +kernel
theorem dX6_close_113 : decode cX6_close 113 = .ok (.iadd, 1) := by decide +kernel
theorem dX6_close_114 : decode cX6_close 114 = .ok (.istore 4, 2) := by decide +kernel
theorem dX6_close_116 : decode cX6_close 116 = .ok (.aload_n 0, 1) := by decide +kernel
theorem dX6_close_117 : decode cX6_close 117 = .ok (.getfield 44, 3) := by decide +kernel
theorem dX6_close_120 : decode cX6_close 120 = .ok (.iload 5, 2) := by decide +kernel
theorem dX6_close_122 : decode cX6_close 122 = .ok (.iaload, 1) := by decide +kernel
theorem dX6_close_123 : decode cX6_close 123 = .ok (.iconst 1, 1) := by decide +kernel
theorem dX6_close_124 : decode cX6_close 124 = .ok (.if_icmp .ne 9, 3) := by decide +kernel
theorem dX6_close_127 : decode cX6_close 127 = .ok (.aload_n 0, 1) := by decide +kernel
theorem dX6_close_128 : decode cX6_close 128 = .ok (.iload 5, 2) := by decide +kernel
theorem dX6_close_130 : decode cX6_close 130 = .ok (.invokevirtual 205, 3) := by decide +kernel
theorem dX6_close_133 : decode cX6_close 133 = .ok (.iinc 5 1, 3) := by decide +kernel
theorem dX6_close_136 : decode cX6_close 136 = .ok (.goto (-56), 3) := by decide +kernel
theorem dX6_close_139 : decode cX6_close 139 = .ok (.iload 4, 2) := by decide +kernel
theorem dX6_close_141 : decode cX6_close 141 = .ok (.ireturn, 1) := by decide +kernel
theorem dX6_noAnswer_0 : decode cX6_noAnswer 0 = .ok (.aload_n 0, 1) := by decide +kernel
theorem dX6_noAnswer_1 : decode cX6_noAnswer 1 = .ok (.aload_n 0, 1) := by decide +kernel
theorem dX6_noAnswer_2 : decode cX6_noAnswer 2 = .ok (.iload_n 1, 1) := by decide +kernel
theorem dX6_noAnswer_3 : decode cX6_noAnswer 3 = .ok (.iload_n 2, 1) := by decide +kernel
theorem dX6_noAnswer_4 : decode cX6_noAnswer 4 = .ok (.invokevirtual 196, 3) := by decide +kernel
theorem dX6_noAnswer_7 : decode cX6_noAnswer 7 = .ok (.ifCond .eq 7, 3) := by decide +kernel
theorem dX6_noAnswer_10 : decode cX6_noAnswer 10 = .ok (.iconst 0, 1) := by decide +kernel
theorem dX6_noAnswer_11 : decode cX6_noAnswer 11 = .ok (.goto 4, 3) := by decide +kernel
theorem dX6_noAnswer_14 : decode cX6_noAnswer 14 = .ok (.iconst 1, 1) := by decide +kernel
theorem dX6_noAnswer_15 : decode cX6_noAnswer 15 = .ok (.invokevirtual 120, 3) := by decide +kernel
theorem dX6_noAnswer_18 : decode cX6_noAnswer 18 = .ok (.ireturn, 1) := by decide +kernel
theorem dX6_answer_0 : decode cX6_answer 0 = .ok (.aload_n 0, 1) := by decide +kernel
theorem dX6_answer_1 : decode cX6_answer 1 = .ok (.iload_n 1, 1) := by decide +kernel
theorem dX6_answer_2 : decode cX6_answer 2 = .ok (.iload_n 2, 1) := by decide +kernel
theorem dX6_answer_3 : decode cX6_answer 3 = .ok (.invokevirtual 209, 3) := by decide +kernel
theorem dX6_answer_6 : decode cX6_answer 6 = .ok (.ifCond .eq 7, 3) := by decide +kernel
theorem dX6_answer_9 : decode cX6_answer 9 = .ok (.iconst 0, 1) := by decide +kernel
theorem dX6_answer_10 : decode cX6_answer 10 = .ok (.goto 14, 3) := by decide +kernel
theorem dX6_answer_13 : decode cX6_answer 13 = .ok (.aload_n 0, 1) := by decide +kernel
theorem dX6_answer_14 : decode cX6_answer 14 = .ok (.getfield 44, 3) := by decide +kernel
theorem dX6_answer_17 : decode cX6_answer 17 = .ok (.bipush 12, 2) := by decide +kernel
theorem dX6_answer_19 : decode cX6_answer 19 = .ok (.iload_n 2, 1) := by decide +kernel
theorem dX6_answer_20 : decode cX6_answer 20 = .ok (.imul, 1) := by decide +kernel
theorem dX6_answer_21 : decode cX6_answer 21 = .ok (.iload_n 1, 1) := by decide +kernel
theorem dX6_answer_22 : decode cX6_answer 22 = .ok (.iadd, 1) := by decide +kernel
theorem dX6_answer_23 : decode cX6_answer 23 = .ok (.iaload, 1) := by decide +kernel
theorem dX6_answer_24 : decode cX6_answer 24 = .ok (.ireturn, 1) := by decide +kernel
theorem dX6_mark_0 : decode cX6_mark 0 = .ok (.aload_n 0, 1) := by decide +kernel
theorem dX6_mark_1 : decode cX6_mark 1 = .ok (.iload_n 1, 1) := by decide +kernel
theorem dX6_mark_2 : decode cX6_mark 2 = .ok (.iload_n 2, 1) := by decide +kernel
theorem dX6_mark_3 : decode cX6_mark 3 = .ok (.invokevirtual 209, 3) := by decide +kernel
theorem dX6_mark_6 : decode cX6_mark 6 = .ok (.ifCond .eq 7, 3) := by decide +kernel
theorem dX6_mark_9 : decode cX6_mark 9 = .ok (.iconst 0, 1) := by decide +kernel
theorem dX6_mark_10 : decode cX6_mark 10 = .ok (.goto 33, 3) := by decide +kernel
theorem dX6_mark_13 : decode cX6_mark 13 = .ok (.aload_n 0, 1) := by decide +kernel
theorem dX6_mark_14 : decode cX6_mark 14 = .ok (.getfield 44, 3) := by decide +kernel
theorem dX6_mark_17 : decode cX6_mark 17 = .ok (.bipush 12, 2) := by decide +kernel
theorem dX6_mark_19 : decode cX6_mark 19 = .ok (.iload_n 2, 1) := by decide +kernel
theorem dX6_mark_20 : decode cX6_mark 20 = .ok (.imul, 1) := by decide +kernel
theorem dX6_mark_21 : decode cX6_mark 21 = .ok (.iload_n 1, 1) := by decide +kernel
theorem dX6_mark_22 : decode cX6_mark 22 = .ok (.iadd, 1) := by decide +kernel
theorem dX6_mark_23 : decode cX6_mark 23 = .ok (.iaload, 1) := by decide +kernel
theorem dX6_mark_24 : decode cX6_mark 24 = .ok (.iconst 2, 1) := by decide +kernel
theorem dX6_mark_25 : decode cX6_mark 25 = .ok (.if_icmp .ne 17, 3) := by decide +kernel
theorem dX6_mark_28 : decode cX6_mark 28 = .ok (.aload_n 0, 1) := by decide +kernel
theorem dX6_mark_29 : decode cX6_mark 29 = .ok (.getfield 50, 3) := by decide +kernel
theorem dX6_mark_32 : decode cX6_mark 32 = .ok (.bipush 12, 2) := by decide +kernel
theorem dX6_mark_34 : decode cX6_mark 34 = .ok (.iload_n 2, 1) := by decide +kernel
theorem dX6_mark_35 : decode cX6_mark 35 = .ok (.imul, 1) := by decide +kernel
theorem dX6_mark_36 : decode cX6_mark 36 = .ok (.iload_n 1, 1) := by decide +kernel
theorem dX6_mark_37 : decode cX6_mark 37 = .ok (.iadd, 1) := by decide +kernel
theorem dX6_mark_38 : decode cX6_mark 38 = .ok (.iaload, 1) := by decide +kernel
theorem dX6_mark_39 : decode cX6_mark 39 = .ok (.goto 4, 3) := by decide +kernel
theorem dX6_mark_42 : decode cX6_mark 42 = .ok (.iconst (-1), 1) := by decide +kernel
theorem dX6_mark_43 : decode cX6_mark 43 = .ok (.ireturn, 1) := by decide +kernel
theorem dX6_due_0 : decode cX6_due 0 = .ok (.aload_n 0, 1) := by decide +kernel
theorem dX6_due_1 : decode cX6_due 1 = .ok (.iload_n 1, 1) := by decide +kernel
theorem dX6_due_2 : decode cX6_due 2 = .ok (.iload_n 2, 1) := by decide +kernel
theorem dX6_due_3 : decode cX6_due 3 = .ok (.invokevirtual 209, 3) := by decide +kernel
theorem dX6_due_6 : decode cX6_due 6 = .ok (.ifCond .eq 7, 3) := by decide +kernel
theorem dX6_due_9 : decode cX6_due 9 = .ok (.iconst 0, 1) := by decide +kernel
theorem dX6_due_10 : decode cX6_due 10 = .ok (.goto 31, 3) := by decide +kernel
theorem dX6_due_13 : decode cX6_due 13 = .ok (.aload_n 0, 1) := by decide +kernel
theorem dX6_due_14 : decode cX6_due 14 = .ok (.getfield 44, 3) := by decide +kernel
theorem dX6_due_17 : decode cX6_due 17 = .ok (.bipush 12, 2) := by decide +kernel
theorem dX6_due_19 : decode cX6_due 19 = .ok (.iload_n 2, 1) := by decide +kernel
theorem dX6_due_20 : decode cX6_due 20 = .ok (.imul, 1) := by decide +kernel
theorem dX6_due_21 : decode cX6_due 21 = .ok (.iload_n 1, 1) := by decide +kernel
theorem dX6_due_22 : decode cX6_due 22 = .ok (.iadd, 1) := by decide +kernel
theorem dX6_due_23 : decode cX6_due 23 = .ok (.iaload, 1) := by decide +kernel
theorem dX6_due_24 : decode cX6_due 24 = .ok (.ifCond .ne 7, 3) := by decide +kernel
theorem dX6_due_27 : decode cX6_due 27 = .ok (.iconst (-1), 1) := by decide +kernel
theorem dX6_due_28 : decode cX6_due 28 = .ok (.goto 13, 3) := by decide +kernel
theorem dX6_due_31 : decode cX6_due 31 = .ok (.aload_n 0, 1) := by decide +kernel
theorem dX6_due_32 : decode cX6_due 32 = .ok (.bipush 12, 2) := by decide +kernel
theorem dX6_due_34 : decode cX6_due 34 = .ok (.iload_n 2, 1) := by decide +kernel
theorem dX6_due_35 : decode cX6_due 35 = .ok (.imul, 1) := by decide +kernel
theorem dX6_due_36 : decode cX6_due 36 = .ok (.iload_n 1, 1) := by decide +kernel
theorem dX6_due_37 : decode cX6_due 37 = .ok (.iadd, 1) := by decide +kernel
theorem dX6_due_38 : decode cX6_due 38 = .ok (.invokevirtual 180, 3) := by decide +kernel
theorem dX6_due_41 : decode cX6_due 41 = .ok (.ireturn, 1) := by decide +kernel
theorem dX6_told_0 : decode cX6_told 0 = .ok (.aload_n 0, 1) := by decide +kernel
theorem dX6_told_1 : decode cX6_told 1 = .ok (.iload_n 1, 1) := by decide +kernel
theorem dX6_told_2 : decode cX6_told 2 = .ok (.iload_n 2, 1) := by decide +kernel
theorem dX6_told_3 : decode cX6_told 3 = .ok (.invokevirtual 209, 3) := by decide +kernel
theorem dX6_told_6 : decode cX6_told 6 = .ok (.ifCond .eq 7, 3) := by decide +kernel
theorem dX6_told_9 : decode cX6_told 9 = .ok (.iconst 0, 1) := by decide +kernel
theorem dX6_told_10 : decode cX6_told 10 = .ok (.goto 14, 3) := by decide +kernel
theorem dX6_told_13 : decode cX6_told 13 = .ok (.aload_n 0, 1) := by decide +kernel
theorem dX6_told_14 : decode cX6_told 14 = .ok (.getfield 53, 3) := by decide +kernel
theorem dX6_told_17 : decode cX6_told 17 = .ok (.bipush 12, 2) := by decide +kernel
theorem dX6_told_19 : decode cX6_told 19 = .ok (.iload_n 2, 1) := by decide +kernel
theorem dX6_told_20 : decode cX6_told 20 = .ok (.imul, 1) := by decide +kernel
theorem dX6_told_21 : decode cX6_told 21 = .ok (.iload_n 1, 1) := by decide +kernel
theorem dX6_told_22 : decode cX6_told 22 = .ok (.iadd, 1) := by decide +kernel
theorem dX6_told_23 : decode cX6_told 23 = .ok (.iaload, 1) := by decide +kernel
theorem dX6_told_24 : decode cX6_told 24 = .ok (.ireturn, 1) := by decide +kernel
theorem dX6_average_0 : decode cX6_average 0 = .ok (.aload_n 0, 1) := by decide +kernel
theorem dX6_average_1 : decode cX6_average 1 = .ok (.iload_n 1, 1) := by decide +kernel
theorem dX6_average_2 : decode cX6_average 2 = .ok (.invokestatic 127, 3) := by decide +kernel
theorem dX6_average_5 : decode cX6_average 5 = .ok (.ifCond .eq 15, 3) := by decide +kernel
theorem dX6_average_8 : decode cX6_average 8 = .ok (.aload_n 0, 1) := by decide +kernel
theorem dX6_average_9 : decode cX6_average 9 = .ok (.iload_n 2, 1) := by decide +kernel
theorem dX6_average_10 : decode cX6_average 10 = .ok (.invokevirtual 94, 3) := by decide +kernel
theorem dX6_average_13 : decode cX6_average 13 = .ok (.ifCond .eq 7, 3) := by decide +kernel
theorem dX6_average_16 : decode cX6_average 16 = .ok (.iconst 0, 1) := by decide +kernel
theorem dX6_average_17 : decode cX6_average 17 = .ok (.goto 4, 3) := by decide +kernel
theorem dX6_average_20 : decode cX6_average 20 = .ok (.iconst 1, 1) := by decide +kernel
theorem dX6_average_21 : decode cX6_average 21 = .ok (.invokevirtual 120, 3) := by decide +kernel
theorem dX6_average_24 : decode cX6_average 24 = .ok (.ifCond .eq 5, 3) := by decide +kernel
theorem dX6_average_27 : decode cX6_average 27 = .ok (.iconst 0, 1) := by decide +kernel
theorem dX6_average_28 : decode cX6_average 28 = .ok (.ireturn, 1) := by decide +kernel
theorem dX6_average_29 : decode cX6_average 29 = .ok (.iconst 0, 1) := by decide +kernel
theorem dX6_average_30 : decode cX6_average 30 = .ok (.istore_n 3, 1) := by decide +kernel
theorem dX6_average_31 : decode cX6_average 31 = .ok (.iconst 0, 1) := by decide +kernel
theorem dX6_average_32 : decode cX6_average 32 = .ok (.istore 4, 2) := by decide +kernel
theorem dX6_average_34 : decode cX6_average 34 = .ok (.bipush 12, 2) := by decide +kernel
theorem dX6_average_36 : decode cX6_average 36 = .ok (.iload_n 2, 1) := by decide +kernel
theorem dX6_average_37 : decode cX6_average 37 = .ok (.imul, 1) := by decide +kernel
theorem dX6_average_38 : decode cX6_average 38 = .ok (.iconst 3, 1) := by decide +kernel
theorem dX6_average_39 : decode cX6_average 39 = .ok (.iload_n 1, 1) := by decide +kernel
theorem dX6_average_40 : decode cX6_average 40 = .ok (.imul, 1) := by decide +kernel
theorem dX6_average_41 : decode cX6_average 41 = .ok (.iadd, 1) := by decide +kernel
theorem dX6_average_42 : decode cX6_average 42 = .ok (.istore 5, 2) := by decide +kernel
theorem dX6_average_44 : decode cX6_average 44 = .ok (.iload 5, 2) := by decide +kernel
theorem dX6_average_46 : decode cX6_average 46 = .ok (.bipush 12, 2) := by decide +kernel
theorem dX6_average_48 : decode cX6_average 48 = .ok (.iload_n 2, 1) := by decide +kernel
theorem dX6_average_49 : decode cX6_average 49 = .ok (.imul, 1) := by decide +kernel
theorem dX6_average_50 : decode cX6_average 50 = .ok (.iconst 3, 1) := by decide +kernel
theorem dX6_average_51 : decode cX6_average 51 = .ok (.iload_n 1, 1) := by decide +kernel
theorem dX6_average_52 : decode cX6_average 52 = .ok (.imul, 1) := by decide +kernel
theorem dX6_average_53 : decode cX6_average 53 = .ok (.iadd, 1) := by decide +kernel
theorem dX6_average_54 : decode cX6_average 54 = .ok (.iconst 3, 1) := by decide +kernel
theorem dX6_average_55 : decode cX6_average 55 = .ok (.iadd, 1) := by decide +kernel
theorem dX6_average_56 : decode cX6_average 56 = .ok (.if_icmp .ge 55, 3) := by decide +kernel
theorem dX6_average_59 : decode cX6_average 59 = .ok (.iload_n 3, 1) := by decide +kernel
theorem dX6_average_60 : decode cX6_average 60 = .ok (.aload_n 0, 1) := by decide +kernel
theorem dX6_average_61 : decode cX6_average 61 = .ok (.getfield 44, 3) := by decide +kernel
theorem dX6_average_64 : decode cX6_average 64 = .ok (.iload 5, 2) := by decide +kernel
theorem dX6_average_66 : decode cX6_average 66 = .ok (.iaload, 1) := by decide +kernel
theorem dX6_average_67 : decode cX6_average 67 = .ok (.iconst 2, 1) := by decide +kernel
theorem dX6_average_68 : decode cX6_average 68 = .ok (.if_icmp .ne 13, 3) := by decide +kernel
theorem dX6_average_71 : decode cX6_average 71 = .ok (.aload_n 0, 1) := by decide +kernel
theorem dX6_average_72 : decode cX6_average 72 = .ok (.getfield 50, 3) := by decide +kernel
theorem dX6_average_75 : decode cX6_average 75 = .ok (.iload 5, 2) := by decide +kernel
theorem dX6_average_77 : decode cX6_average 77 = .ok (.iaload, 1) := by decide +kernel
theorem dX6_average_78 : decode cX6_average 78 = .ok (.goto 4, 3) := by decide +kernel
theorem dX6_average_81 : decode cX6_average 81 = .ok (.iconst 0, 1) := by decide +kernel
theorem dX6_average_82 : decode cX6_average 82 = .ok (.iadd, 1) := by decide +kernel
theorem dX6_average_83 : decode cX6_average 83 = .ok (.istore_n 3, 1) := by decide +kernel
theorem dX6_average_84 : decode cX6_average 84 = .ok (.iload 4, 2) := by decide +kernel
theorem dX6_average_86 : decode cX6_average 86 = .ok (.aload_n 0, 1) := by decide +kernel
theorem dX6_average_87 : decode cX6_average 87 = .ok (.getfield 44, 3) := by decide +kernel
theorem dX6_average_90 : decode cX6_average 90 = .ok (.iload 5, 2) := by decide +kernel
theorem dX6_average_92 : decode cX6_average 92 = .ok (.iaload, 1) := by decide +kernel
theorem dX6_average_93 : decode cX6_average 93 = .ok (.iconst 2, 1) := by decide +kernel
theorem dX6_average_94 : decode cX6_average 94 = .ok (.if_icmp .ne 7, 3) := by decide +kernel
theorem dX6_average_97 : decode cX6_average 97 = .ok (.iconst 1, 1) := by decide +kernel
theorem dX6_average_98 : decode cX6_average 98 = .ok (.goto 4, 3) := by decide +kernel
theorem dX6_average_101 : decode cX6_average 101 = .ok (.iconst 0, 1) := by decide +kernel
theorem dX6_average_102 : decode cX6_average 102 = .ok (.iadd, 1) := by decide +kernel
theorem dX6_average_103 : decode cX6_average 103 = .ok (.istore 4, 2) := by decide +kernel
theorem dX6_average_105 : decode cX6_average 105 = .ok (.iinc 5 1, 3) := by decide +kernel
theorem dX6_average_108 : decode cX6_average 108 = .ok (.goto (-64), 3) := by decide +kernel
theorem dX6_average_111 : decode cX6_average 111 = .ok (.iload 4, 2) := by decide +kernel
theorem dX6_average_113 : decode cX6_average 113 = .ok (.ifCond .ne 7, 3) := by decide +kernel
theorem dX6_average_116 : decode cX6_average 116 = .ok (.iconst (-1), 1) := by decide +kernel
theorem dX6_average_117 : decode cX6_average 117 = .ok (.goto 10, 3) := by decide +kernel
theorem dX6_average_120 : decode cX6_average 120 = .ok (.bipush 100, 2) := by decide +kernel
theorem dX6_average_122 : decode cX6_average 122 = .ok (.iload_n 3, 1) := by decide +kernel
theorem dX6_average_123 : decode cX6_average 123 = .ok (.imul, 1) := by decide +kernel
theorem dX6_average_124 : decode cX6_average 124 = .ok (.iload 4, 2) := by decide +kernel
theorem dX6_average_126 : decode cX6_average 126 = .ok (.idiv, 1) := by decide +kernel
theorem dX6_average_127 : decode cX6_average 127 = .ok (.ireturn, 1) := by decide +kernel
theorem dX6_print_0 : decode cX6_print 0 = .ok (.sipush 1024, 3) := by decide +kernel
theorem dX6_print_3 : decode cX6_print 3 = .ok (.iload_n 0, 1) := by decide +kernel
theorem dX6_print_4 : decode cX6_print 4 = .ok (.imul, 1) := by decide +kernel
theorem dX6_print_5 : decode cX6_print 5 = .ok (.bipush 32, 2) := by decide +kernel
theorem dX6_print_7 : decode cX6_print 7 = .ok (.iload_n 1, 1) := by decide +kernel
theorem dX6_print_8 : decode cX6_print 8 = .ok (.imul, 1) := by decide +kernel
theorem dX6_print_9 : decode cX6_print 9 = .ok (.iadd, 1) := by decide +kernel
theorem dX6_print_10 : decode cX6_print 10 = .ok (.iload_n 2, 1) := by decide +kernel
theorem dX6_print_11 : decode cX6_print 11 = .ok (.iadd, 1) := by decide +kernel
theorem dX6_print_12 : decode cX6_print 12 = .ok (.ireturn, 1) := by decide +kernel
theorem dX6_isInRule_0 : decode cX6_isInRule 0 = .ok (.iconst 0, 1) := by decide +kernel
theorem dX6_isInRule_1 : decode cX6_isInRule 1 = .ok (.istore_n 2, 1) := by decide +kernel
theorem dX6_isInRule_2 : decode cX6_isInRule 2 = .ok (.iconst 0, 1) := by decide +kernel
theorem dX6_isInRule_3 : decode cX6_isInRule 3 = .ok (.istore_n 3, 1) := by decide +kernel
theorem dX6_isInRule_4 : decode cX6_isInRule 4 = .ok (.iload_n 3, 1) := by decide +kernel
theorem dX6_isInRule_5 : decode cX6_isInRule 5 = .ok (.iconst 2, 1) := by decide +kernel
theorem dX6_isInRule_6 : decode cX6_isInRule 6 = .ok (.iadd, 1) := by decide +kernel
theorem dX6_isInRule_7 : decode cX6_isInRule 7 = .ok (.iload_n 0, 1) := by decide +kernel
theorem dX6_isInRule_8 : decode cX6_isInRule 8 = .ok (.invokestatic 103, 3) := by decide +kernel
theorem dX6_isInRule_11 : decode cX6_isInRule 11 = .ok (.if_icmp .ge 45, 3) := by decide +kernel
theorem dX6_isInRule_14 : decode cX6_isInRule 14 = .ok (.iload_n 2, 1) := by decide +kernel
theorem dX6_isInRule_15 : decode cX6_isInRule 15 = .ok (.ifCond .ne 29, 3) := by decide +kernel
theorem dX6_isInRule_18 : decode cX6_isInRule 18 = .ok (.iload_n 0, 1) := by decide +kernel
theorem dX6_isInRule_19 : decode cX6_isInRule 19 = .ok (.iload_n 3, 1) := by decide +kernel
theorem dX6_isInRule_20 : decode cX6_isInRule 20 = .ok (.invokestatic 98, 3) := by decide +kernel
theorem dX6_isInRule_23 : decode cX6_isInRule 23 = .ok (.iload_n 0, 1) := by decide +kernel
theorem dX6_isInRule_24 : decode cX6_isInRule 24 = .ok (.iload_n 3, 1) := by decide +kernel
theorem dX6_isInRule_25 : decode cX6_isInRule 25 = .ok (.iconst 1, 1) := by decide +kernel
theorem dX6_isInRule_26 : decode cX6_isInRule 26 = .ok (.iadd, 1) := by decide +kernel
theorem dX6_isInRule_27 : decode cX6_isInRule 27 = .ok (.invokestatic 98, 3) := by decide +kernel
theorem dX6_isInRule_30 : decode cX6_isInRule 30 = .ok (.iload_n 0, 1) := by decide +kernel
theorem dX6_isInRule_31 : decode cX6_isInRule 31 = .ok (.iload_n 3, 1) := by decide +kernel
theorem dX6_isInRule_32 : decode cX6_isInRule 32 = .ok (.iconst 2, 1) := by decide +kernel
theorem dX6_isInRule_33 : decode cX6_isInRule 33 = .ok (.iadd, 1) := by decide +kernel
theorem dX6_isInRule_34 : decode cX6_isInRule 34 = .ok (.invokestatic 98, 3) := by decide +kernel
theorem dX6_isInRule_37 : decode cX6_isInRule 37 = .ok (.invokestatic 212, 3) := by decide +kernel
theorem dX6_isInRule_40 : decode cX6_isInRule 40 = .ok (.iload_n 1, 1) := by decide +kernel
theorem dX6_isInRule_41 : decode cX6_isInRule 41 = .ok (.if_icmp .ne 7, 3) := by decide +kernel
theorem dX6_isInRule_44 : decode cX6_isInRule 44 = .ok (.iconst 1, 1) := by decide +kernel
theorem dX6_isInRule_45 : decode cX6_isInRule 45 = .ok (.goto 4, 3) := by decide +kernel
theorem dX6_isInRule_48 : decode cX6_isInRule 48 = .ok (.iconst 0, 1) := by decide +kernel
theorem dX6_isInRule_49 : decode cX6_isInRule 49 = .ok (.istore_n 2, 1) := by decide +kernel
theorem dX6_isInRule_50 : decode cX6_isInRule 50 = .ok (.iinc 3 1, 3) := by decide +kernel
theorem dX6_isInRule_53 : decode cX6_isInRule 53 = .ok (.goto (-49), 3) := by decide +kernel
theorem dX6_isInRule_56 : decode cX6_isInRule 56 = .ok (.iload_n 2, 1) := by decide +kernel
theorem dX6_isInRule_57 : decode cX6_isInRule 57 = .ok (.ireturn, 1) := by decide +kernel
theorem dX6_isPrint_0 : decode cX6_isPrint 0 = .ok (.iconst 0, 1) := by decide +kernel
theorem dX6_isPrint_1 : decode cX6_isPrint 1 = .ok (.istore_n 2, 1) := by decide +kernel
theorem dX6_isPrint_2 : decode cX6_isPrint 2 = .ok (.iconst 0, 1) := by decide +kernel
theorem dX6_isPrint_3 : decode cX6_isPrint 3 = .ok (.istore_n 3, 1) := by decide +kernel
theorem dX6_isPrint_4 : decode cX6_isPrint 4 = .ok (.iload_n 3, 1) := by decide +kernel
theorem dX6_isPrint_5 : decode cX6_isPrint 5 = .ok (.aload_n 0, 1) := by decide +kernel
theorem dX6_isPrint_6 : decode cX6_isPrint 6 = .ok (.getfield 215, 3) := by decide +kernel
theorem dX6_isPrint_9 : decode cX6_isPrint 9 = .ok (.if_icmp .ge 29, 3) := by decide +kernel
theorem dX6_isPrint_12 : decode cX6_isPrint 12 = .ok (.iload_n 2, 1) := by decide +kernel
theorem dX6_isPrint_13 : decode cX6_isPrint 13 = .ok (.ifCond .ne 13, 3) := by decide +kernel
theorem dX6_isPrint_16 : decode cX6_isPrint 16 = .ok (.aload_n 0, 1) := by decide +kernel
theorem dX6_isPrint_17 : decode cX6_isPrint 17 = .ok (.getfield 77, 3) := by decide +kernel
theorem dX6_isPrint_20 : decode cX6_isPrint 20 = .ok (.iload_n 3, 1) := by decide +kernel
theorem dX6_isPrint_21 : decode cX6_isPrint 21 = .ok (.iaload, 1) := by decide +kernel
theorem dX6_isPrint_22 : decode cX6_isPrint 22 = .ok (.iload_n 1, 1) := by decide +kernel
theorem dX6_isPrint_23 : decode cX6_isPrint 23 = .ok (.if_icmp .ne 7, 3) := by decide +kernel
theorem dX6_isPrint_26 : decode cX6_isPrint 26 = .ok (.iconst 1, 1) := by decide +kernel
theorem dX6_isPrint_27 : decode cX6_isPrint 27 = .ok (.goto 4, 3) := by decide +kernel
theorem dX6_isPrint_30 : decode cX6_isPrint 30 = .ok (.iconst 0, 1) := by decide +kernel
theorem dX6_isPrint_31 : decode cX6_isPrint 31 = .ok (.istore_n 2, 1) := by decide +kernel
theorem dX6_isPrint_32 : decode cX6_isPrint 32 = .ok (.iinc 3 1, 3) := by decide +kernel
theorem dX6_isPrint_35 : decode cX6_isPrint 35 = .ok (.goto (-31), 3) := by decide +kernel
theorem dX6_isPrint_38 : decode cX6_isPrint 38 = .ok (.iload_n 2, 1) := by decide +kernel
theorem dX6_isPrint_39 : decode cX6_isPrint 39 = .ok (.ireturn, 1) := by decide +kernel
theorem dX6_lay_0 : decode cX6_lay 0 = .ok (.aload_n 0, 1) := by decide +kernel
theorem dX6_lay_1 : decode cX6_lay 1 = .ok (.iconst 0, 1) := by decide +kernel
theorem dX6_lay_2 : decode cX6_lay 2 = .ok (.putfield 215, 3) := by decide +kernel
theorem dX6_lay_5 : decode cX6_lay 5 = .ok (.iconst 0, 1) := by decide +kernel
theorem dX6_lay_6 : decode cX6_lay 6 = .ok (.istore_n 2, 1) := by decide +kernel
theorem dX6_lay_7 : decode cX6_lay 7 = .ok (.iload_n 2, 1) := by decide +kernel
theorem dX6_lay_8 : decode cX6_lay 8 = .ok (.iconst 5, 1) := by decide +kernel
theorem dX6_lay_9 : decode cX6_lay 9 = .ok (.if_icmp .ge 181, 3) := by decide +kernel
theorem dX6_lay_12 : decode cX6_lay 12 = .ok (.aload_n 0, 1) := by decide +kernel
theorem dX6_lay_13 : decode cX6_lay 13 = .ok (.getfield 44, 3) := by decide +kernel
theorem dX6_lay_16 : decode cX6_lay 16 = .ok (.iload_n 1, 1) := by decide +kernel
theorem dX6_lay_17 : decode cX6_lay 17 = .ok (.iaload, 1) := by decide +kernel
theorem dX6_lay_18 : decode cX6_lay 18 = .ok (.iconst 2, 1) := by decide +kernel
theorem dX6_lay_19 : decode cX6_lay 19 = .ok (.if_icmp .ne 171, 3) := by decide +kernel
theorem dX6_lay_22 : decode cX6_lay 22 = .ok (.aload_n 0, 1) := by decide +kernel
theorem dX6_lay_23 : decode cX6_lay 23 = .ok (.getfield 50, 3) := by decide +kernel
theorem dX6_lay_26 : decode cX6_lay 26 = .ok (.iload_n 1, 1) := by decide +kernel
theorem dX6_lay_27 : decode cX6_lay 27 = .ok (.iaload, 1) := by decide +kernel
theorem dX6_lay_28 : decode cX6_lay 28 = .ok (.ifCond .le 162, 3) := by decide +kernel
theorem dX6_lay_31 : decode cX6_lay 31 = .ok (.aload_n 0, 1) := by decide +kernel
theorem dX6_lay_32 : decode cX6_lay 32 = .ok (.iload_n 1, 1) := by decide +kernel
theorem dX6_lay_33 : decode cX6_lay 33 = .ok (.bipush 12, 2) := by decide +kernel
theorem dX6_lay_35 : decode cX6_lay 35 = .ok (.idiv, 1) := by decide +kernel
theorem dX6_lay_36 : decode cX6_lay 36 = .ok (.aload_n 0, 1) := by decide +kernel
theorem dX6_lay_37 : decode cX6_lay 37 = .ok (.getfield 47, 3) := by decide +kernel
theorem dX6_lay_40 : decode cX6_lay 40 = .ok (.iload_n 1, 1) := by decide +kernel
theorem dX6_lay_41 : decode cX6_lay 41 = .ok (.iaload, 1) := by decide +kernel
theorem dX6_lay_42 : decode cX6_lay 42 = .ok (.iload_n 2, 1) := by decide +kernel
theorem dX6_lay_43 : decode cX6_lay 43 = .ok (.invokevirtual 146, 3) := by decide +kernel
theorem dX6_lay_46 : decode cX6_lay 46 = .ok (.istore_n 3, 1) := by decide +kernel
theorem dX6_lay_47 : decode cX6_lay 47 = .ok (.iconst 5, 1) := by decide +kernel
theorem dX6_lay_48 : decode cX6_lay 48 = .ok (.iload_n 1, 1) := by decide +kernel
theorem dX6_lay_49 : decode cX6_lay 49 = .ok (.imul, 1) := by decide +kernel
theorem dX6_lay_50 : decode cX6_lay 50 = .ok (.iload_n 2, 1) := by decide +kernel
theorem dX6_lay_51 : decode cX6_lay 51 = .ok (.iadd, 1) := by decide +kernel
theorem dX6_lay_52 : decode cX6_lay 52 = .ok (.istore 4, 2) := by decide +kernel
theorem dX6_lay_54 : decode cX6_lay 54 = .ok (.iconst 0, 1) := by decide +kernel
theorem dX6_lay_55 : decode cX6_lay 55 = .ok (.istore 5, 2) := by decide +kernel
theorem dX6_lay_57 : decode cX6_lay 57 = .ok (.iload_n 3, 1) := by decide +kernel
theorem dX6_lay_58 : decode cX6_lay 58 = .ok (.iconst (-1), 1) := by decide +kernel
theorem dX6_lay_59 : decode cX6_lay 59 = .ok (.if_icmp .eq 125, 3) := by decide +kernel
theorem dX6_lay_62 : decode cX6_lay 62 = .ok (.aload_n 0, 1) := by decide +kernel
theorem dX6_lay_63 : decode cX6_lay 63 = .ok (.getfield 23, 3) := by decide +kernel
theorem dX6_lay_66 : decode cX6_lay 66 = .ok (.iload_n 3, 1) := by decide +kernel
theorem dX6_lay_67 : decode cX6_lay 67 = .ok (.iaload, 1) := by decide +kernel
theorem dX6_lay_68 : decode cX6_lay 68 = .ok (.iconst 2, 1) := by decide +kernel
theorem dX6_lay_69 : decode cX6_lay 69 = .ok (.if_icmp .ne 115, 3) := by decide +kernel
theorem dX6_lay_72 : decode cX6_lay 72 = .ok (.iload 5, 2) := by decide +kernel
theorem dX6_lay_74 : decode cX6_lay 74 = .ok (.iconst 2, 1) := by decide +kernel
theorem dX6_lay_75 : decode cX6_lay 75 = .ok (.iadd, 1) := by decide +kernel
theorem dX6_lay_76 : decode cX6_lay 76 = .ok (.aload_n 0, 1) := by decide +kernel
theorem dX6_lay_77 : decode cX6_lay 77 = .ok (.getfield 65, 3) := by decide +kernel
theorem dX6_lay_80 : decode cX6_lay 80 = .ok (.iload 4, 2) := by decide +kernel
theorem dX6_lay_82 : decode cX6_lay 82 = .ok (.iaload, 1) := by decide +kernel
theorem dX6_lay_83 : decode cX6_lay 83 = .ok (.if_icmp .ge 101, 3) := by decide +kernel
theorem dX6_lay_86 : decode cX6_lay 86 = .ok (.aload_n 0, 1) := by decide +kernel
theorem dX6_lay_87 : decode cX6_lay 87 = .ok (.getfield 68, 3) := by decide +kernel
theorem dX6_lay_90 : decode cX6_lay 90 = .ok (.bipush 12, 2) := by decide +kernel
theorem dX6_lay_92 : decode cX6_lay 92 = .ok (.iload 4, 2) := by decide +kernel
theorem dX6_lay_94 : decode cX6_lay 94 = .ok (.imul, 1) := by decide +kernel
theorem dX6_lay_95 : decode cX6_lay 95 = .ok (.iload 5, 2) := by decide +kernel
theorem dX6_lay_97 : decode cX6_lay 97 = .ok (.iadd, 1) := by decide +kernel
theorem dX6_lay_98 : decode cX6_lay 98 = .ok (.iaload, 1) := by decide +kernel
theorem dX6_lay_99 : decode cX6_lay 99 = .ok (.aload_n 0, 1) := by decide +kernel
theorem dX6_lay_100 : decode cX6_lay 100 = .ok (.getfield 68, 3) := by decide +kernel
theorem dX6_lay_103 : decode cX6_lay 103 = .ok (.bipush 12, 2) := by decide +kernel
theorem dX6_lay_105 : decode cX6_lay 105 = .ok (.iload 4, 2) := by decide +kernel
theorem dX6_lay_107 : decode cX6_lay 107 = .ok (.imul, 1) := by decide +kernel
theorem dX6_lay_108 : decode cX6_lay 108 = .ok (.iload 5, 2) := by decide +kernel
theorem dX6_lay_110 : decode cX6_lay 110 = .ok (.iadd, 1) := by decide +kernel
theorem dX6_lay_111 : decode cX6_lay 111 = .ok (.iconst 1, 1) := by decide +kernel
theorem dX6_lay_112 : decode cX6_lay 112 = .ok (.iadd, 1) := by decide +kernel
theorem dX6_lay_113 : decode cX6_lay 113 = .ok (.iaload, 1) := by decide +kernel
theorem dX6_lay_114 : decode cX6_lay 114 = .ok (.aload_n 0, 1) := by decide +kernel
theorem dX6_lay_115 : decode cX6_lay 115 = .ok (.getfield 68, 3) := by decide +kernel
theorem dX6_lay_118 : decode cX6_lay 118 = .ok (.bipush 12, 2) := by decide +kernel
theorem dX6_lay_120 : decode cX6_lay 120 = .ok (.iload 4, 2) := by decide +kernel
theorem dX6_lay_122 : decode cX6_lay 122 = .ok (.imul, 1) := by decide +kernel
theorem dX6_lay_123 : decode cX6_lay 123 = .ok (.iload 5, 2) := by decide +kernel
theorem dX6_lay_125 : decode cX6_lay 125 = .ok (.iadd, 1) := by decide +kernel
theorem dX6_lay_126 : decode cX6_lay 126 = .ok (.iconst 2, 1) := by decide +kernel
theorem dX6_lay_127 : decode cX6_lay 127 = .ok (.iadd, 1) := by decide +kernel
theorem dX6_lay_128 : decode cX6_lay 128 = .ok (.iaload, 1) := by decide +kernel
theorem dX6_lay_129 : decode cX6_lay 129 = .ok (.invokestatic 212, 3) := by decide +kernel
theorem dX6_lay_132 : decode cX6_lay 132 = .ok (.istore 6, 2) := by decide +kernel
theorem dX6_lay_134 : decode cX6_lay 134 = .ok (.aload_n 0, 1) := by decide +kernel
theorem dX6_lay_135 : decode cX6_lay 135 = .ok (.getfield 29, 3) := by decide +kernel
theorem dX6_lay_138 : decode cX6_lay 138 = .ok (.iload_n 3, 1) := by decide +kernel
theorem dX6_lay_139 : decode cX6_lay 139 = .ok (.iaload, 1) := by decide +kernel
theorem dX6_lay_140 : decode cX6_lay 140 = .ok (.iload 6, 2) := by decide +kernel
theorem dX6_lay_142 : decode cX6_lay 142 = .ok (.invokestatic 218, 3) := by decide +kernel
theorem dX6_lay_145 : decode cX6_lay 145 = .ok (.ifCond .ne 33, 3) := by decide +kernel
theorem dX6_lay_148 : decode cX6_lay 148 = .ok (.aload_n 0, 1) := by decide +kernel
theorem dX6_lay_149 : decode cX6_lay 149 = .ok (.iload 6, 2) := by decide +kernel
theorem dX6_lay_151 : decode cX6_lay 151 = .ok (.invokevirtual 221, 3) := by decide +kernel
theorem dX6_lay_154 : decode cX6_lay 154 = .ok (.ifCond .ne 24, 3) := by decide +kernel
theorem dX6_lay_157 : decode cX6_lay 157 = .ok (.aload_n 0, 1) := by decide +kernel
theorem dX6_lay_158 : decode cX6_lay 158 = .ok (.getfield 77, 3) := by decide +kernel
theorem dX6_lay_161 : decode cX6_lay 161 = .ok (.aload_n 0, 1) := by decide +kernel
theorem dX6_lay_162 : decode cX6_lay 162 = .ok (.getfield 215, 3) := by decide +kernel
theorem dX6_lay_165 : decode cX6_lay 165 = .ok (.iload 6, 2) := by decide +kernel
theorem dX6_lay_167 : decode cX6_lay 167 = .ok (.iastore, 1) := by decide +kernel
theorem dX6_lay_168 : decode cX6_lay 168 = .ok (.aload_n 0, 1) := by decide +kernel
theorem dX6_lay_169 : decode cX6_lay 169 = .ok (.dup, 1) := by decide +kernel
theorem dX6_lay_170 : decode cX6_lay 170 = .ok (.getfield 215, 3) := by decide +kernel
theorem dX6_lay_173 : decode cX6_lay 173 = .ok (.iconst 1, 1) := by decide +kernel
theorem dX6_lay_174 : decode cX6_lay 174 = .ok (.iadd, 1) := by decide +kernel
theorem dX6_lay_175 : decode cX6_lay 175 = .ok (.putfield 215, 3) := by decide +kernel
theorem dX6_lay_178 : decode cX6_lay 178 = .ok (.iinc 5 1, 3) := by decide +kernel
theorem dX6_lay_181 : decode cX6_lay 181 = .ok (.goto (-124), 3) := by decide +kernel
theorem dX6_lay_184 : decode cX6_lay 184 = .ok (.iinc 2 1, 3) := by decide +kernel
theorem dX6_lay_187 : decode cX6_lay 187 = .ok (.goto (-180), 3) := by decide +kernel
theorem dX6_lay_190 : decode cX6_lay 190 = .ok (.return_, 1) := by decide +kernel
theorem dX6_fingerprints_0 : decode cX6_fingerprints 0 = .ok (.aload_n 0, 1) := by decide +kernel
theorem dX6_fingerprints_1 : decode cX6_fingerprints 1 = .ok (.iload_n 1, 1) := by decide +kernel
theorem dX6_fingerprints_2 : decode cX6_fingerprints 2 = .ok (.iload_n 2, 1) := by decide +kernel
theorem dX6_fingerprints_3 : decode cX6_fingerprints 3 = .ok (.invokevirtual 209, 3) := by decide +kernel
theorem dX6_fingerprints_6 : decode cX6_fingerprints 6 = .ok (.ifCond .eq 5, 3) := by decide +kernel
theorem dX6_fingerprints_9 : decode cX6_fingerprints 9 = .ok (.iconst 0, 1) := by decide +kernel
theorem dX6_fingerprints_10 : decode cX6_fingerprints 10 = .ok (.ireturn, 1) := by decide +kernel
theorem dX6_fingerprints_11 : decode cX6_fingerprints 11 = .ok (.aload_n 0, 1) := by decide +kernel
theorem dX6_fingerprints_12 : decode cX6_fingerprints 12 = .ok (.bipush 12, 2) := by decide +kernel
theorem dX6_fingerprints_14 : decode cX6_fingerprints 14 = .ok (.iload_n 2, 1) := by decide +kernel
theorem dX6_fingerprints_15 : decode cX6_fingerprints 15 = .ok (.imul, 1) := by decide +kernel
theorem dX6_fingerprints_16 : decode cX6_fingerprints 16 = .ok (.iload_n 1, 1) := by decide +kernel
theorem dX6_fingerprints_17 : decode cX6_fingerprints 17 = .ok (.iadd, 1) := by decide +kernel
theorem dX6_fingerprints_18 : decode cX6_fingerprints 18 = .ok (.invokevirtual 224, 3) := by decide +kernel
theorem dX6_fingerprints_21 : decode cX6_fingerprints 21 = .ok (.aload_n 0, 1) := by decide +kernel
theorem dX6_fingerprints_22 : decode cX6_fingerprints 22 = .ok (.getfield 215, 3) := by decide +kernel
theorem dX6_fingerprints_25 : decode cX6_fingerprints 25 = .ok (.ireturn, 1) := by decide +kernel
theorem dX6_withPrint_0 : decode cX6_withPrint 0 = .ok (.aload_n 0, 1) := by decide +kernel
theorem dX6_withPrint_1 : decode cX6_withPrint 1 = .ok (.iload_n 1, 1) := by decide +kernel
theorem dX6_withPrint_2 : decode cX6_withPrint 2 = .ok (.invokevirtual 165, 3) := by decide +kernel
theorem dX6_withPrint_5 : decode cX6_withPrint 5 = .ok (.ifCond .eq 5, 3) := by decide +kernel
theorem dX6_withPrint_8 : decode cX6_withPrint 8 = .ok (.iconst 0, 1) := by decide +kernel
theorem dX6_withPrint_9 : decode cX6_withPrint 9 = .ok (.ireturn, 1) := by decide +kernel
theorem dX6_withPrint_10 : decode cX6_withPrint 10 = .ok (.iconst 0, 1) := by decide +kernel
theorem dX6_withPrint_11 : decode cX6_withPrint 11 = .ok (.istore_n 3, 1) := by decide +kernel
theorem dX6_withPrint_12 : decode cX6_withPrint 12 = .ok (.iconst 0, 1) := by decide +kernel
theorem dX6_withPrint_13 : decode cX6_withPrint 13 = .ok (.istore 4, 2) := by decide +kernel
theorem dX6_withPrint_15 : decode cX6_withPrint 15 = .ok (.iload 4, 2) := by decide +kernel
theorem dX6_withPrint_17 : decode cX6_withPrint 17 = .ok (.bipush 12, 2) := by decide +kernel
theorem dX6_withPrint_19 : decode cX6_withPrint 19 = .ok (.if_icmp .ge 39, 3) := by decide +kernel
theorem dX6_withPrint_22 : decode cX6_withPrint 22 = .ok (.aload_n 0, 1) := by decide +kernel
theorem dX6_withPrint_23 : decode cX6_withPrint 23 = .ok (.bipush 12, 2) := by decide +kernel
theorem dX6_withPrint_25 : decode cX6_withPrint 25 = .ok (.iload_n 1, 1) := by decide +kernel
theorem dX6_withPrint_26 : decode cX6_withPrint 26 = .ok (.imul, 1) := by decide +kernel
theorem dX6_withPrint_27 : decode cX6_withPrint 27 = .ok (.iload 4, 2) := by decide +kernel
theorem dX6_withPrint_29 : decode cX6_withPrint 29 = .ok (.iadd, 1) := by decide +kernel
theorem dX6_withPrint_30 : decode cX6_withPrint 30 = .ok (.invokevirtual 224, 3) := by decide +kernel
theorem dX6_withPrint_33 : decode cX6_withPrint 33 = .ok (.iload_n 3, 1) := by decide +kernel
theorem dX6_withPrint_34 : decode cX6_withPrint 34 = .ok (.aload_n 0, 1) := by decide +kernel
theorem dX6_withPrint_35 : decode cX6_withPrint 35 = .ok (.iload_n 2, 1) := by decide +kernel
theorem dX6_withPrint_36 : decode cX6_withPrint 36 = .ok (.invokevirtual 221, 3) := by decide +kernel
theorem dX6_withPrint_39 : decode cX6_withPrint 39 = .ok (.ifCond .eq 10, 3) := by decide +kernel
theorem dX6_withPrint_42 : decode cX6_withPrint 42 = .ok (.iconst 1, 1) := by decide +kernel
theorem dX6_withPrint_43 : decode cX6_withPrint 43 = .ok (.iload 4, 2) := by decide +kernel
theorem dX6_withPrint_45 : decode cX6_withPrint 45 = .ok (.ishl, 1) := by decide +kernel
theorem dX6_withPrint_46 : decode cX6_withPrint 46 = .ok (.goto 4, 3) := by decide +kernel
theorem dX6_withPrint_49 : decode cX6_withPrint 49 = .ok (.iconst 0, 1) := by decide +kernel
theorem dX6_withPrint_50 : decode cX6_withPrint 50 = .ok (.ior, 1) := by decide +kernel
theorem dX6_withPrint_51 : decode cX6_withPrint 51 = .ok (.istore_n 3, 1) := by decide +kernel
theorem dX6_withPrint_52 : decode cX6_withPrint 52 = .ok (.iinc 4 1, 3) := by decide +kernel
theorem dX6_withPrint_55 : decode cX6_withPrint 55 = .ok (.goto (-40), 3) := by decide +kernel
theorem dX6_withPrint_58 : decode cX6_withPrint 58 = .ok (.iload_n 3, 1) := by decide +kernel
theorem dX6_withPrint_59 : decode cX6_withPrint 59 = .ok (.ireturn, 1) := by decide +kernel
theorem dX6_alike_0 : decode cX6_alike 0 = .ok (.aload_n 0, 1) := by decide +kernel
theorem dX6_alike_1 : decode cX6_alike 1 = .ok (.iload_n 1, 1) := by decide +kernel
theorem dX6_alike_2 : decode cX6_alike 2 = .ok (.invokevirtual 224, 3) := by decide +kernel
theorem dX6_alike_5 : decode cX6_alike 5 = .ok (.aload_n 0, 1) := by decide +kernel
theorem dX6_alike_6 : decode cX6_alike 6 = .ok (.getfield 215, 3) := by decide +kernel
theorem dX6_alike_9 : decode cX6_alike 9 = .ok (.istore_n 3, 1) := by decide +kernel
theorem dX6_alike_10 : decode cX6_alike 10 = .ok (.iconst 0, 1) := by decide +kernel
theorem dX6_alike_11 : decode cX6_alike 11 = .ok (.istore 4, 2) := by decide +kernel
theorem dX6_alike_13 : decode cX6_alike 13 = .ok (.iload 4, 2) := by decide +kernel
theorem dX6_alike_15 : decode cX6_alike 15 = .ok (.iload_n 3, 1) := by decide +kernel
theorem dX6_alike_16 : decode cX6_alike 16 = .ok (.if_icmp .ge 23, 3) := by decide +kernel
theorem dX6_alike_19 : decode cX6_alike 19 = .ok (.aload_n 0, 1) := by decide +kernel
theorem dX6_alike_20 : decode cX6_alike 20 = .ok (.getfield 80, 3) := by decide +kernel
theorem dX6_alike_23 : decode cX6_alike 23 = .ok (.iload 4, 2) := by decide +kernel
theorem dX6_alike_25 : decode cX6_alike 25 = .ok (.aload_n 0, 1) := by decide +kernel
theorem dX6_alike_26 : decode cX6_alike 26 = .ok (.getfield 77, 3) := by decide +kernel
theorem dX6_alike_29 : decode cX6_alike 29 = .ok (.iload 4, 2) := by decide +kernel
theorem dX6_alike_31 : decode cX6_alike 31 = .ok (.iaload, 1) := by decide +kernel
theorem dX6_alike_32 : decode cX6_alike 32 = .ok (.iastore, 1) := by decide +kernel
theorem dX6_alike_33 : decode cX6_alike 33 = .ok (.iinc 4 1, 3) := by decide +kernel
theorem dX6_alike_36 : decode cX6_alike 36 = .ok (.goto (-23), 3) := by decide +kernel
theorem dX6_alike_39 : decode cX6_alike 39 = .ok (.aload_n 0, 1) := by decide +kernel
theorem dX6_alike_40 : decode cX6_alike 40 = .ok (.iload_n 2, 1) := by decide +kernel
theorem dX6_alike_41 : decode cX6_alike 41 = .ok (.invokevirtual 224, 3) := by decide +kernel
theorem dX6_alike_44 : decode cX6_alike 44 = .ok (.iconst 0, 1) := by decide +kernel
theorem dX6_alike_45 : decode cX6_alike 45 = .ok (.istore 4, 2) := by decide +kernel
theorem dX6_alike_47 : decode cX6_alike 47 = .ok (.iconst 0, 1) := by decide +kernel
theorem dX6_alike_48 : decode cX6_alike 48 = .ok (.istore 5, 2) := by decide +kernel
theorem dX6_alike_50 : decode cX6_alike 50 = .ok (.iload 5, 2) := by decide +kernel
theorem dX6_alike_52 : decode cX6_alike 52 = .ok (.iload_n 3, 1) := by decide +kernel
theorem dX6_alike_53 : decode cX6_alike 53 = .ok (.if_icmp .ge 33, 3) := by decide +kernel
theorem dX6_alike_56 : decode cX6_alike 56 = .ok (.iload 4, 2) := by decide +kernel
theorem dX6_alike_58 : decode cX6_alike 58 = .ok (.aload_n 0, 1) := by decide +kernel
theorem dX6_alike_59 : decode cX6_alike 59 = .ok (.aload_n 0, 1) := by decide +kernel
theorem dX6_alike_60 : decode cX6_alike 60 = .ok (.getfield 80, 3) := by decide +kernel
theorem dX6_alike_63 : decode cX6_alike 63 = .ok (.iload 5, 2) := by decide +kernel
theorem dX6_alike_65 : decode cX6_alike 65 = .ok (.iaload, 1) := by decide +kernel
theorem dX6_alike_66 : decode cX6_alike 66 = .ok (.invokevirtual 221, 3) := by decide +kernel
theorem dX6_alike_69 : decode cX6_alike 69 = .ok (.ifCond .eq 7, 3) := by decide +kernel
theorem dX6_alike_72 : decode cX6_alike 72 = .ok (.iconst 1, 1) := by decide +kernel
theorem dX6_alike_73 : decode cX6_alike 73 = .ok (.goto 4, 3) := by decide +kernel
theorem dX6_alike_76 : decode cX6_alike 76 = .ok (.iconst 0, 1) := by decide +kernel
theorem dX6_alike_77 : decode cX6_alike 77 = .ok (.iadd, 1) := by decide +kernel
theorem dX6_alike_78 : decode cX6_alike 78 = .ok (.istore 4, 2) := by decide +kernel
theorem dX6_alike_80 : decode cX6_alike 80 = .ok (.iinc 5 1, 3) := by decide +kernel
theorem dX6_alike_83 : decode cX6_alike 83 = .ok (.goto (-33), 3) := by decide +kernel
theorem dX6_alike_86 : decode cX6_alike 86 = .ok (.iload_n 3, 1) := by decide +kernel
theorem dX6_alike_87 : decode cX6_alike 87 = .ok (.aload_n 0, 1) := by decide +kernel
theorem dX6_alike_88 : decode cX6_alike 88 = .ok (.getfield 215, 3) := by decide +kernel
theorem dX6_alike_91 : decode cX6_alike 91 = .ok (.if_icmp .ge 7, 3) := by decide +kernel
theorem dX6_alike_94 : decode cX6_alike 94 = .ok (.iload_n 3, 1) := by decide +kernel
theorem dX6_alike_95 : decode cX6_alike 95 = .ok (.goto 7, 3) := by decide +kernel
theorem dX6_alike_98 : decode cX6_alike 98 = .ok (.aload_n 0, 1) := by decide +kernel
theorem dX6_alike_99 : decode cX6_alike 99 = .ok (.getfield 215, 3) := by decide +kernel
theorem dX6_alike_102 : decode cX6_alike 102 = .ok (.istore 5, 2) := by decide +kernel
theorem dX6_alike_104 : decode cX6_alike 104 = .ok (.iload 5, 2) := by decide +kernel
theorem dX6_alike_106 : decode cX6_alike 106 = .ok (.ifCond .ne 7, 3) := by decide +kernel
theorem dX6_alike_109 : decode cX6_alike 109 = .ok (.iconst 0, 1) := by decide +kernel
theorem dX6_alike_110 : decode cX6_alike 110 = .ok (.goto 18, 3) := by decide +kernel
theorem dX6_alike_113 : decode cX6_alike 113 = .ok (.sipush 1000, 3) := by decide +kernel
theorem dX6_alike_116 : decode cX6_alike 116 = .ok (.iload 4, 2) := by decide +kernel
theorem dX6_alike_118 : decode cX6_alike 118 = .ok (.imul, 1) := by decide +kernel
theorem dX6_alike_119 : decode cX6_alike 119 = .ok (.bipush 100, 2) := by decide +kernel
theorem dX6_alike_121 : decode cX6_alike 121 = .ok (.iload 4, 2) := by decide +kernel
theorem dX6_alike_123 : decode cX6_alike 123 = .ok (.imul, 1) := by decide +kernel
theorem dX6_alike_124 : decode cX6_alike 124 = .ok (.iload 5, 2) := by decide +kernel
theorem dX6_alike_126 : decode cX6_alike 126 = .ok (.idiv, 1) := by decide +kernel
theorem dX6_alike_127 : decode cX6_alike 127 = .ok (.iadd, 1) := by decide +kernel
theorem dX6_alike_128 : decode cX6_alike 128 = .ok (.ireturn, 1) := by decide +kernel
theorem dX6_likeness_0 : decode cX6_likeness 0 = .ok (.aload_n 0, 1) := by decide +kernel
theorem dX6_likeness_1 : decode cX6_likeness 1 = .ok (.iload_n 1, 1) := by decide +kernel
theorem dX6_likeness_2 : decode cX6_likeness 2 = .ok (.invokevirtual 94, 3) := by decide +kernel
theorem dX6_likeness_5 : decode cX6_likeness 5 = .ok (.ifCond .eq 21, 3) := by decide +kernel
theorem dX6_likeness_8 : decode cX6_likeness 8 = .ok (.iload_n 2, 1) := by decide +kernel
theorem dX6_likeness_9 : decode cX6_likeness 9 = .ok (.invokestatic 193, 3) := by decide +kernel
theorem dX6_likeness_12 : decode cX6_likeness 12 = .ok (.ifCond .eq 14, 3) := by decide +kernel
theorem dX6_likeness_15 : decode cX6_likeness 15 = .ok (.iload_n 3, 1) := by decide +kernel
theorem dX6_likeness_16 : decode cX6_likeness 16 = .ok (.invokestatic 193, 3) := by decide +kernel
theorem dX6_likeness_19 : decode cX6_likeness 19 = .ok (.ifCond .eq 7, 3) := by decide +kernel
theorem dX6_likeness_22 : decode cX6_likeness 22 = .ok (.iconst 1, 1) := by decide +kernel
theorem dX6_likeness_23 : decode cX6_likeness 23 = .ok (.goto 4, 3) := by decide +kernel
theorem dX6_likeness_26 : decode cX6_likeness 26 = .ok (.iconst 0, 1) := by decide +kernel
theorem dX6_likeness_27 : decode cX6_likeness 27 = .ok (.istore 4, 2) := by decide +kernel
theorem dX6_likeness_29 : decode cX6_likeness 29 = .ok (.aload_n 0, 1) := by decide +kernel
theorem dX6_likeness_30 : decode cX6_likeness 30 = .ok (.iload 4, 2) := by decide +kernel
theorem dX6_likeness_32 : decode cX6_likeness 32 = .ok (.ifCond .eq 7, 3) := by decide +kernel
theorem dX6_likeness_35 : decode cX6_likeness 35 = .ok (.iconst 0, 1) := by decide +kernel
theorem dX6_likeness_36 : decode cX6_likeness 36 = .ok (.goto 4, 3) := by decide +kernel
theorem dX6_likeness_39 : decode cX6_likeness 39 = .ok (.iconst 1, 1) := by decide +kernel
theorem dX6_likeness_40 : decode cX6_likeness 40 = .ok (.invokevirtual 120, 3) := by decide +kernel
theorem dX6_likeness_43 : decode cX6_likeness 43 = .ok (.ifCond .ne 8, 3) := by decide +kernel
theorem dX6_likeness_46 : decode cX6_likeness 46 = .ok (.iload_n 2, 1) := by decide +kernel
theorem dX6_likeness_47 : decode cX6_likeness 47 = .ok (.iload_n 3, 1) := by decide +kernel
theorem dX6_likeness_48 : decode cX6_likeness 48 = .ok (.if_icmp .ne 7, 3) := by decide +kernel
theorem dX6_likeness_51 : decode cX6_likeness 51 = .ok (.iconst 0, 1) := by decide +kernel
theorem dX6_likeness_52 : decode cX6_likeness 52 = .ok (.goto 23, 3) := by decide +kernel
theorem dX6_likeness_55 : decode cX6_likeness 55 = .ok (.aload_n 0, 1) := by decide +kernel
theorem dX6_likeness_56 : decode cX6_likeness 56 = .ok (.bipush 12, 2) := by decide +kernel
theorem dX6_likeness_58 : decode cX6_likeness 58 = .ok (.iload_n 1, 1) := by decide +kernel
theorem dX6_likeness_59 : decode cX6_likeness 59 = .ok (.imul, 1) := by decide +kernel
theorem dX6_likeness_60 : decode cX6_likeness 60 = .ok (.iload_n 2, 1) := by decide +kernel
theorem dX6_likeness_61 : decode cX6_likeness 61 = .ok (.iadd, 1) := by decide +kernel
theorem dX6_likeness_62 : decode cX6_likeness 62 = .ok (.bipush 12, 2) := by decide +kernel
theorem dX6_likeness_64 : decode cX6_likeness 64 = .ok (.iload_n 1, 1) := by decide +kernel
theorem dX6_likeness_65 : decode cX6_likeness 65 = .ok (.imul, 1) := by decide +kernel
theorem dX6_likeness_66 : decode cX6_likeness 66 = .ok (.iload_n 3, 1) := by decide +kernel
theorem dX6_likeness_67 : decode cX6_likeness 67 = .ok (.iadd, 1) := by decide +kernel
theorem dX6_likeness_68 : decode cX6_likeness 68 = .ok (.invokevirtual 227, 3) := by decide +kernel
theorem dX6_likeness_71 : decode cX6_likeness 71 = .ok (.sipush 1000, 3) := by decide +kernel
theorem dX6_likeness_74 : decode cX6_likeness 74 = .ok (.irem, 1) := by decide +kernel
theorem dX6_likeness_75 : decode cX6_likeness 75 = .ok (.ireturn, 1) := by decide +kernel
theorem dX6_isPair_0 : decode cX6_isPair 0 = .ok (.aload_n 0, 1) := by decide +kernel
theorem dX6_isPair_1 : decode cX6_isPair 1 = .ok (.bipush 12, 2) := by decide +kernel
theorem dX6_isPair_3 : decode cX6_isPair 3 = .ok (.iload_n 1, 1) := by decide +kernel
theorem dX6_isPair_4 : decode cX6_isPair 4 = .ok (.imul, 1) := by decide +kernel
theorem dX6_isPair_5 : decode cX6_isPair 5 = .ok (.iload_n 2, 1) := by decide +kernel
theorem dX6_isPair_6 : decode cX6_isPair 6 = .ok (.iadd, 1) := by decide +kernel
theorem dX6_isPair_7 : decode cX6_isPair 7 = .ok (.bipush 12, 2) := by decide +kernel
theorem dX6_isPair_9 : decode cX6_isPair 9 = .ok (.iload_n 1, 1) := by decide +kernel
theorem dX6_isPair_10 : decode cX6_isPair 10 = .ok (.imul, 1) := by decide +kernel
theorem dX6_isPair_11 : decode cX6_isPair 11 = .ok (.iload_n 3, 1) := by decide +kernel
theorem dX6_isPair_12 : decode cX6_isPair 12 = .ok (.iadd, 1) := by decide +kernel
theorem dX6_isPair_13 : decode cX6_isPair 13 = .ok (.invokevirtual 227, 3) := by decide +kernel
theorem dX6_isPair_16 : decode cX6_isPair 16 = .ok (.istore 4, 2) := by decide +kernel
theorem dX6_isPair_18 : decode cX6_isPair 18 = .ok (.iload 4, 2) := by decide +kernel
theorem dX6_isPair_20 : decode cX6_isPair 20 = .ok (.sipush 1000, 3) := by decide +kernel
theorem dX6_isPair_23 : decode cX6_isPair 23 = .ok (.idiv, 1) := by decide +kernel
theorem dX6_isPair_24 : decode cX6_isPair 24 = .ok (.iconst 2, 1) := by decide +kernel
theorem dX6_isPair_25 : decode cX6_isPair 25 = .ok (.if_icmp .lt 18, 3) := by decide +kernel
theorem dX6_isPair_28 : decode cX6_isPair 28 = .ok (.iload 4, 2) := by decide +kernel
theorem dX6_isPair_30 : decode cX6_isPair 30 = .ok (.sipush 1000, 3) := by decide +kernel
theorem dX6_isPair_33 : decode cX6_isPair 33 = .ok (.irem, 1) := by decide +kernel
theorem dX6_isPair_34 : decode cX6_isPair 34 = .ok (.bipush 60, 2) := by decide +kernel
theorem dX6_isPair_36 : decode cX6_isPair 36 = .ok (.if_icmp .lt 7, 3) := by decide +kernel
theorem dX6_isPair_39 : decode cX6_isPair 39 = .ok (.iconst 1, 1) := by decide +kernel
theorem dX6_isPair_40 : decode cX6_isPair 40 = .ok (.goto 4, 3) := by decide +kernel
theorem dX6_isPair_43 : decode cX6_isPair 43 = .ok (.iconst 0, 1) := by decide +kernel
theorem dX6_isPair_44 : decode cX6_isPair 44 = .ok (.ireturn, 1) := by decide +kernel
theorem dX6_pairsOf_0 : decode cX6_pairsOf 0 = .ok (.iconst 0, 1) := by decide +kernel
theorem dX6_pairsOf_1 : decode cX6_pairsOf 1 = .ok (.istore_n 2, 1) := by decide +kernel
theorem dX6_pairsOf_2 : decode cX6_pairsOf 2 = .ok (.iconst 0, 1) := by decide +kernel
theorem dX6_pairsOf_3 : decode cX6_pairsOf 3 = .ok (.istore_n 3, 1) := by decide +kernel
theorem dX6_pairsOf_4 : decode cX6_pairsOf 4 = .ok (.iload_n 3, 1) := by decide +kernel
theorem dX6_pairsOf_5 : decode cX6_pairsOf 5 = .ok (.sipush 144, 3) := by decide +kernel
theorem dX6_pairsOf_8 : decode cX6_pairsOf 8 = .ok (.if_icmp .ge 44, 3) := by decide +kernel
theorem dX6_pairsOf_11 : decode cX6_pairsOf 11 = .ok (.iload_n 2, 1) := by decide +kernel
theorem dX6_pairsOf_12 : decode cX6_pairsOf 12 = .ok (.iload_n 3, 1) := by decide +kernel
theorem dX6_pairsOf_13 : decode cX6_pairsOf 13 = .ok (.bipush 12, 2) := by decide +kernel
theorem dX6_pairsOf_15 : decode cX6_pairsOf 15 = .ok (.idiv, 1) := by decide +kernel
theorem dX6_pairsOf_16 : decode cX6_pairsOf 16 = .ok (.iload_n 3, 1) := by decide +kernel
theorem dX6_pairsOf_17 : decode cX6_pairsOf 17 = .ok (.bipush 12, 2) := by decide +kernel
theorem dX6_pairsOf_19 : decode cX6_pairsOf 19 = .ok (.irem, 1) := by decide +kernel
theorem dX6_pairsOf_20 : decode cX6_pairsOf 20 = .ok (.if_icmp .ge 23, 3) := by decide +kernel
theorem dX6_pairsOf_23 : decode cX6_pairsOf 23 = .ok (.aload_n 0, 1) := by decide +kernel
theorem dX6_pairsOf_24 : decode cX6_pairsOf 24 = .ok (.iload_n 1, 1) := by decide +kernel
theorem dX6_pairsOf_25 : decode cX6_pairsOf 25 = .ok (.iload_n 3, 1) := by decide +kernel
theorem dX6_pairsOf_26 : decode cX6_pairsOf 26 = .ok (.bipush 12, 2) := by decide +kernel
theorem dX6_pairsOf_28 : decode cX6_pairsOf 28 = .ok (.idiv, 1) := by decide +kernel
theorem dX6_pairsOf_29 : decode cX6_pairsOf 29 = .ok (.iload_n 3, 1) := by decide +kernel
theorem dX6_pairsOf_30 : decode cX6_pairsOf 30 = .ok (.bipush 12, 2) := by decide +kernel
theorem dX6_pairsOf_32 : decode cX6_pairsOf 32 = .ok (.irem, 1) := by decide +kernel
theorem dX6_pairsOf_33 : decode cX6_pairsOf 33 = .ok (.invokevirtual 230, 3) := by decide +kernel
theorem dX6_pairsOf_36 : decode cX6_pairsOf 36 = .ok (.ifCond .eq 7, 3) := by decide +kernel
theorem dX6_pairsOf_39 : decode cX6_pairsOf 39 = .ok (.iconst 1, 1) := by decide +kernel
theorem dX6_pairsOf_40 : decode cX6_pairsOf 40 = .ok (.goto 4, 3) := by decide +kernel
theorem dX6_pairsOf_43 : decode cX6_pairsOf 43 = .ok (.iconst 0, 1) := by decide +kernel
theorem dX6_pairsOf_44 : decode cX6_pairsOf 44 = .ok (.iadd, 1) := by decide +kernel
theorem dX6_pairsOf_45 : decode cX6_pairsOf 45 = .ok (.istore_n 2, 1) := by decide +kernel
theorem dX6_pairsOf_46 : decode cX6_pairsOf 46 = .ok (.iinc 3 1, 3) := by decide +kernel
theorem dX6_pairsOf_49 : decode cX6_pairsOf 49 = .ok (.goto (-45), 3) := by decide +kernel
theorem dX6_pairsOf_52 : decode cX6_pairsOf 52 = .ok (.iload_n 2, 1) := by decide +kernel
theorem dX6_pairsOf_53 : decode cX6_pairsOf 53 = .ok (.ireturn, 1) := by decide +kernel
theorem dX6_pairs_0 : decode cX6_pairs 0 = .ok (.aload_n 0, 1) := by decide +kernel
theorem dX6_pairs_1 : decode cX6_pairs 1 = .ok (.iload_n 1, 1) := by decide +kernel
theorem dX6_pairs_2 : decode cX6_pairs 2 = .ok (.invokevirtual 165, 3) := by decide +kernel
theorem dX6_pairs_5 : decode cX6_pairs 5 = .ok (.ifCond .eq 7, 3) := by decide +kernel
theorem dX6_pairs_8 : decode cX6_pairs 8 = .ok (.iconst 0, 1) := by decide +kernel
theorem dX6_pairs_9 : decode cX6_pairs 9 = .ok (.goto 8, 3) := by decide +kernel
theorem dX6_pairs_12 : decode cX6_pairs 12 = .ok (.aload_n 0, 1) := by decide +kernel
theorem dX6_pairs_13 : decode cX6_pairs 13 = .ok (.iload_n 1, 1) := by decide +kernel
theorem dX6_pairs_14 : decode cX6_pairs 14 = .ok (.invokevirtual 233, 3) := by decide +kernel
theorem dX6_pairs_17 : decode cX6_pairs 17 = .ok (.ireturn, 1) := by decide +kernel
theorem dX6_pairAt_0 : decode cX6_pairAt 0 = .ok (.aload_n 0, 1) := by decide +kernel
theorem dX6_pairAt_1 : decode cX6_pairAt 1 = .ok (.iload_n 1, 1) := by decide +kernel
theorem dX6_pairAt_2 : decode cX6_pairAt 2 = .ok (.invokevirtual 94, 3) := by decide +kernel
theorem dX6_pairAt_5 : decode cX6_pairAt 5 = .ok (.ifCond .eq 11, 3) := by decide +kernel
theorem dX6_pairAt_8 : decode cX6_pairAt 8 = .ok (.iload_n 2, 1) := by decide +kernel
theorem dX6_pairAt_9 : decode cX6_pairAt 9 = .ok (.ifCond .lt 7, 3) := by decide +kernel
theorem dX6_pairAt_12 : decode cX6_pairAt 12 = .ok (.iconst 1, 1) := by decide +kernel
theorem dX6_pairAt_13 : decode cX6_pairAt 13 = .ok (.goto 4, 3) := by decide +kernel
theorem dX6_pairAt_16 : decode cX6_pairAt 16 = .ok (.iconst 0, 1) := by decide +kernel
theorem dX6_pairAt_17 : decode cX6_pairAt 17 = .ok (.istore_n 3, 1) := by decide +kernel
theorem dX6_pairAt_18 : decode cX6_pairAt 18 = .ok (.iload_n 2, 1) := by decide +kernel
theorem dX6_pairAt_19 : decode cX6_pairAt 19 = .ok (.istore 4, 2) := by decide +kernel
theorem dX6_pairAt_21 : decode cX6_pairAt 21 = .ok (.iconst (-1), 1) := by decide +kernel
theorem dX6_pairAt_22 : decode cX6_pairAt 22 = .ok (.istore 5, 2) := by decide +kernel
theorem dX6_pairAt_24 : decode cX6_pairAt 24 = .ok (.iconst 0, 1) := by decide +kernel
theorem dX6_pairAt_25 : decode cX6_pairAt 25 = .ok (.istore 6, 2) := by decide +kernel
theorem dX6_pairAt_27 : decode cX6_pairAt 27 = .ok (.iload_n 3, 1) := by decide +kernel
theorem dX6_pairAt_28 : decode cX6_pairAt 28 = .ok (.ifCond .eq 82, 3) := by decide +kernel
theorem dX6_pairAt_31 : decode cX6_pairAt 31 = .ok (.iload 5, 2) := by decide +kernel
theorem dX6_pairAt_33 : decode cX6_pairAt 33 = .ok (.iconst (-1), 1) := by decide +kernel
theorem dX6_pairAt_34 : decode cX6_pairAt 34 = .ok (.if_icmp .ne 76, 3) := by decide +kernel
theorem dX6_pairAt_37 : decode cX6_pairAt 37 = .ok (.iload 6, 2) := by decide +kernel
theorem dX6_pairAt_39 : decode cX6_pairAt 39 = .ok (.sipush 144, 3) := by decide +kernel
theorem dX6_pairAt_42 : decode cX6_pairAt 42 = .ok (.if_icmp .ge 68, 3) := by decide +kernel
theorem dX6_pairAt_45 : decode cX6_pairAt 45 = .ok (.iload 6, 2) := by decide +kernel
theorem dX6_pairAt_47 : decode cX6_pairAt 47 = .ok (.bipush 12, 2) := by decide +kernel
theorem dX6_pairAt_49 : decode cX6_pairAt 49 = .ok (.idiv, 1) := by decide +kernel
theorem dX6_pairAt_50 : decode cX6_pairAt 50 = .ok (.iload 6, 2) := by decide +kernel
theorem dX6_pairAt_52 : decode cX6_pairAt 52 = .ok (.bipush 12, 2) := by decide +kernel
theorem dX6_pairAt_54 : decode cX6_pairAt 54 = .ok (.irem, 1) := by decide +kernel
theorem dX6_pairAt_55 : decode cX6_pairAt 55 = .ok (.if_icmp .ge 49, 3) := by decide +kernel
theorem dX6_pairAt_58 : decode cX6_pairAt 58 = .ok (.aload_n 0, 1) := by decide +kernel
theorem dX6_pairAt_59 : decode cX6_pairAt 59 = .ok (.iload_n 1, 1) := by decide +kernel
theorem dX6_pairAt_60 : decode cX6_pairAt 60 = .ok (.iload 6, 2) := by decide +kernel
theorem dX6_pairAt_62 : decode cX6_pairAt 62 = .ok (.bipush 12, 2) := by decide +kernel
theorem dX6_pairAt_64 : decode cX6_pairAt 64 = .ok (.idiv, 1) := by decide +kernel
theorem dX6_pairAt_65 : decode cX6_pairAt 65 = .ok (.iload 6, 2) := by decide +kernel
theorem dX6_pairAt_67 : decode cX6_pairAt 67 = .ok (.bipush 12, 2) := by decide +kernel
theorem dX6_pairAt_69 : decode cX6_pairAt 69 = .ok (.irem, 1) := by decide +kernel
theorem dX6_pairAt_70 : decode cX6_pairAt 70 = .ok (.invokevirtual 230, 3) := by decide +kernel
theorem dX6_pairAt_73 : decode cX6_pairAt 73 = .ok (.ifCond .eq 31, 3) := by decide +kernel
theorem dX6_pairAt_76 : decode cX6_pairAt 76 = .ok (.iload 4, 2) := by decide +kernel
theorem dX6_pairAt_78 : decode cX6_pairAt 78 = .ok (.ifCond .ne 20, 3) := by decide +kernel
theorem dX6_pairAt_81 : decode cX6_pairAt 81 = .ok (.bipush 100, 2) := by decide +kernel
theorem dX6_pairAt_83 : decode cX6_pairAt 83 = .ok (.iload 6, 2) := by decide +kernel
theorem dX6_pairAt_85 : decode cX6_pairAt 85 = .ok (.bipush 12, 2) := by decide +kernel
theorem dX6_pairAt_87 : decode cX6_pairAt 87 = .ok (.idiv, 1) := by decide +kernel
theorem dX6_pairAt_88 : decode cX6_pairAt 88 = .ok (.imul, 1) := by decide +kernel
theorem dX6_pairAt_89 : decode cX6_pairAt 89 = .ok (.iload 6, 2) := by decide +kernel
theorem dX6_pairAt_91 : decode cX6_pairAt 91 = .ok (.bipush 12, 2) := by decide +kernel
theorem dX6_pairAt_93 : decode cX6_pairAt 93 = .ok (.irem, 1) := by decide +kernel
theorem dX6_pairAt_94 : decode cX6_pairAt 94 = .ok (.iadd, 1) := by decide +kernel
theorem dX6_pairAt_95 : decode cX6_pairAt 95 = .ok (.goto 4, 3) := by decide +kernel
theorem dX6_pairAt_98 : decode cX6_pairAt 98 = .ok (.iconst (-1), 1) := by decide +kernel
theorem dX6_pairAt_99 : decode cX6_pairAt 99 = .ok (.istore 5, 2) := by decide +kernel
theorem dX6_pairAt_101 : decode cX6_pairAt 101 = .ok (.iinc 4 (-1), 3) := by decide +kernel
theorem dX6_pairAt_104 : decode cX6_pairAt 104 = .ok (.iinc 6 1, 3) := by decide +kernel
theorem dX6_pairAt_107 : decode cX6_pairAt 107 = .ok (.goto (-80), 3) := by decide +kernel
theorem dX6_pairAt_110 : decode cX6_pairAt 110 = .ok (.aload_n 0, 1) := by decide +kernel
theorem dX6_pairAt_111 : decode cX6_pairAt 111 = .ok (.iload 5, 2) := by decide +kernel
theorem dX6_pairAt_113 : decode cX6_pairAt 113 = .ok (.iconst (-1), 1) := by decide +kernel
theorem dX6_pairAt_114 : decode cX6_pairAt 114 = .ok (.if_icmp .ne 7, 3) := by decide +kernel
theorem dX6_pairAt_117 : decode cX6_pairAt 117 = .ok (.iconst 1, 1) := by decide +kernel
theorem dX6_pairAt_118 : decode cX6_pairAt 118 = .ok (.goto 4, 3) := by decide +kernel
theorem dX6_pairAt_121 : decode cX6_pairAt 121 = .ok (.iconst 0, 1) := by decide +kernel
theorem dX6_pairAt_122 : decode cX6_pairAt 122 = .ok (.invokevirtual 120, 3) := by decide +kernel
theorem dX6_pairAt_125 : decode cX6_pairAt 125 = .ok (.ifCond .eq 7, 3) := by decide +kernel
theorem dX6_pairAt_128 : decode cX6_pairAt 128 = .ok (.iconst 0, 1) := by decide +kernel
theorem dX6_pairAt_129 : decode cX6_pairAt 129 = .ok (.goto 5, 3) := by decide +kernel
theorem dX6_pairAt_132 : decode cX6_pairAt 132 = .ok (.iload 5, 2) := by decide +kernel
theorem dX6_pairAt_134 : decode cX6_pairAt 134 = .ok (.ireturn, 1) := by decide +kernel
theorem dX6_pairsAnew_0 : decode cX6_pairsAnew 0 = .ok (.aload_n 0, 1) := by decide +kernel
theorem dX6_pairsAnew_1 : decode cX6_pairsAnew 1 = .ok (.iload_n 1, 1) := by decide +kernel
theorem dX6_pairsAnew_2 : decode cX6_pairsAnew 2 = .ok (.invokevirtual 236, 3) := by decide +kernel
theorem dX6_pairsAnew_5 : decode cX6_pairsAnew 5 = .ok (.ireturn, 1) := by decide +kernel
theorem dX6_setQuota_0 : decode cX6_setQuota 0 = .ok (.aload_n 0, 1) := by decide +kernel
theorem dX6_setQuota_1 : decode cX6_setQuota 1 = .ok (.iload_n 1, 1) := by decide +kernel
theorem dX6_setQuota_2 : decode cX6_setQuota 2 = .ok (.invokestatic 127, 3) := by decide +kernel
theorem dX6_setQuota_5 : decode cX6_setQuota 5 = .ok (.ifCond .ne 7, 3) := by decide +kernel
theorem dX6_setQuota_8 : decode cX6_setQuota 8 = .ok (.iconst 1, 1) := by decide +kernel
theorem dX6_setQuota_9 : decode cX6_setQuota 9 = .ok (.goto 19, 3) := by decide +kernel
theorem dX6_setQuota_12 : decode cX6_setQuota 12 = .ok (.iload_n 2, 1) := by decide +kernel
theorem dX6_setQuota_13 : decode cX6_setQuota 13 = .ok (.iconst 0, 1) := by decide +kernel
theorem dX6_setQuota_14 : decode cX6_setQuota 14 = .ok (.sipush 1000, 3) := by decide +kernel
theorem dX6_setQuota_17 : decode cX6_setQuota 17 = .ok (.invokestatic 87, 3) := by decide +kernel
theorem dX6_setQuota_20 : decode cX6_setQuota 20 = .ok (.ifCond .eq 7, 3) := by decide +kernel
theorem dX6_setQuota_23 : decode cX6_setQuota 23 = .ok (.iconst 0, 1) := by decide +kernel
theorem dX6_setQuota_24 : decode cX6_setQuota 24 = .ok (.goto 4, 3) := by decide +kernel
theorem dX6_setQuota_27 : decode cX6_setQuota 27 = .ok (.iconst 2, 1) := by decide +kernel
theorem dX6_setQuota_28 : decode cX6_setQuota 28 = .ok (.invokevirtual 120, 3) := by decide +kernel
theorem dX6_setQuota_31 : decode cX6_setQuota 31 = .ok (.ifCond .eq 5, 3) := by decide +kernel
theorem dX6_setQuota_34 : decode cX6_setQuota 34 = .ok (.iconst 0, 1) := by decide +kernel
theorem dX6_setQuota_35 : decode cX6_setQuota 35 = .ok (.ireturn, 1) := by decide +kernel
theorem dX6_setQuota_36 : decode cX6_setQuota 36 = .ok (.aload_n 0, 1) := by decide +kernel
theorem dX6_setQuota_37 : decode cX6_setQuota 37 = .ok (.getfield 41, 3) := by decide +kernel
theorem dX6_setQuota_40 : decode cX6_setQuota 40 = .ok (.iload_n 1, 1) := by decide +kernel
theorem dX6_setQuota_41 : decode cX6_setQuota 41 = .ok (.iaload, 1) := by decide +kernel
theorem dX6_setQuota_42 : decode cX6_setQuota 42 = .ok (.istore_n 3, 1) := by decide +kernel
theorem dX6_setQuota_43 : decode cX6_setQuota 43 = .ok (.aload_n 0, 1) := by decide +kernel
theorem dX6_setQuota_44 : decode cX6_setQuota 44 = .ok (.getfield 41, 3) := by decide +kernel
theorem dX6_setQuota_47 : decode cX6_setQuota 47 = .ok (.iload_n 1, 1) := by decide +kernel
theorem dX6_setQuota_48 : decode cX6_setQuota 48 = .ok (.iload_n 2, 1) := by decide +kernel
theorem dX6_setQuota_49 : decode cX6_setQuota 49 = .ok (.iastore, 1) := by decide +kernel
theorem dX6_setQuota_50 : decode cX6_setQuota 50 = .ok (.iload_n 3, 1) := by decide +kernel
theorem dX6_setQuota_51 : decode cX6_setQuota 51 = .ok (.ireturn, 1) := by decide +kernel
theorem dX6_used_0 : decode cX6_used 0 = .ok (.aload_n 0, 1) := by decide +kernel
theorem dX6_used_1 : decode cX6_used 1 = .ok (.iload_n 1, 1) := by decide +kernel
theorem dX6_used_2 : decode cX6_used 2 = .ok (.invokestatic 127, 3) := by decide +kernel
theorem dX6_used_5 : decode cX6_used 5 = .ok (.ifCond .eq 7, 3) := by decide +kernel
theorem dX6_used_8 : decode cX6_used 8 = .ok (.iconst 0, 1) := by decide +kernel
theorem dX6_used_9 : decode cX6_used 9 = .ok (.goto 4, 3) := by decide +kernel
theorem dX6_used_12 : decode cX6_used 12 = .ok (.iconst 1, 1) := by decide +kernel
theorem dX6_used_13 : decode cX6_used 13 = .ok (.invokevirtual 120, 3) := by decide +kernel
theorem dX6_used_16 : decode cX6_used 16 = .ok (.ifCond .eq 7, 3) := by decide +kernel
theorem dX6_used_19 : decode cX6_used 19 = .ok (.iconst 0, 1) := by decide +kernel
theorem dX6_used_20 : decode cX6_used 20 = .ok (.goto 8, 3) := by decide +kernel
theorem dX6_used_23 : decode cX6_used 23 = .ok (.aload_n 0, 1) := by decide +kernel
theorem dX6_used_24 : decode cX6_used 24 = .ok (.iload_n 1, 1) := by decide +kernel
theorem dX6_used_25 : decode cX6_used 25 = .ok (.invokevirtual 117, 3) := by decide +kernel
theorem dX6_used_28 : decode cX6_used 28 = .ok (.ireturn, 1) := by decide +kernel
theorem dX6_usedAnew_0 : decode cX6_usedAnew 0 = .ok (.aload_n 0, 1) := by decide +kernel
theorem dX6_usedAnew_1 : decode cX6_usedAnew 1 = .ok (.iload_n 1, 1) := by decide +kernel
theorem dX6_usedAnew_2 : decode cX6_usedAnew 2 = .ok (.invokevirtual 239, 3) := by decide +kernel
theorem dX6_usedAnew_5 : decode cX6_usedAnew 5 = .ok (.ireturn, 1) := by decide +kernel
