theorem dX9_matchSize_0 : decode cX9_matchSize 0 = .ok (.aload_n 0, 1) := by decide +kernel
theorem dX9_matchSize_1 : decode cX9_matchSize 1 = .ok (.invokevirtual 298, 3) := by decide +kernel
theorem dX9_matchSize_4 : decode cX9_matchSize 4 = .ok (.istore_n 2, 1) := by decide +kernel
theorem dX9_matchSize_5 : decode cX9_matchSize 5 = .ok (.iload_n 2, 1) := by decide +kernel
theorem dX9_matchSize_6 : decode cX9_matchSize 6 = .ok (.ifCond .ge 5, 3) := by decide +kernel
theorem dX9_matchSize_9 : decode cX9_matchSize 9 = .ok (.iload_n 2, 1) := by decide +kernel
theorem dX9_matchSize_10 : decode cX9_matchSize 10 = .ok (.ireturn, 1) := by decide +kernel
theorem dX9_matchSize_11 : decode cX9_matchSize 11 = .ok (.aload_n 0, 1) := by decide +kernel
theorem dX9_matchSize_12 : decode cX9_matchSize 12 = .ok (.iload_n 1, 1) := by decide +kernel
theorem dX9_matchSize_13 : decode cX9_matchSize 13 = .ok (.ifCond .eq 26, 3) := by decide +kernel
theorem dX9_matchSize_16 : decode cX9_matchSize 16 = .ok (.aload_n 0, 1) := by decide +kernel
theorem dX9_matchSize_17 : decode cX9_matchSize 17 = .ok (.getfield 178, 3) := by decide +kernel
theorem dX9_matchSize_20 : decode cX9_matchSize 20 = .ok (.aload_n 0, 1) := by decide +kernel
theorem dX9_matchSize_21 : decode cX9_matchSize 21 = .ok (.aload_n 0, 1) := by decide +kernel
theorem dX9_matchSize_22 : decode cX9_matchSize 22 = .ok (.getfield 292, 3) := by decide +kernel
theorem dX9_matchSize_25 : decode cX9_matchSize 25 = .ok (.iconst (-1), 1) := by decide +kernel
theorem dX9_matchSize_26 : decode cX9_matchSize 26 = .ok (.iconst (-1), 1) := by decide +kernel
theorem dX9_matchSize_27 : decode cX9_matchSize 27 = .ok (.iconst (-1), 1) := by decide +kernel
theorem dX9_matchSize_28 : decode cX9_matchSize 28 = .ok (.invokevirtual 138, 3) := by decide +kernel
theorem dX9_matchSize_31 : decode cX9_matchSize 31 = .ok (.ldc2_w 172, 3) := by decide +kernel
theorem dX9_matchSize_34 : decode cX9_matchSize 34 = .ok (.lxor, 1) := by decide +kernel
theorem dX9_matchSize_35 : decode cX9_matchSize 35 = .ok (.land, 1) := by decide +kernel
theorem dX9_matchSize_36 : decode cX9_matchSize 36 = .ok (.goto 7, 3) := by decide +kernel
theorem dX9_matchSize_39 : decode cX9_matchSize 39 = .ok (.aload_n 0, 1) := by decide +kernel
theorem dX9_matchSize_40 : decode cX9_matchSize 40 = .ok (.getfield 292, 3) := by decide +kernel
theorem dX9_matchSize_43 : decode cX9_matchSize 43 = .ok (.invokevirtual 204, 3) := by decide +kernel
theorem dX9_matchSize_46 : decode cX9_matchSize 46 = .ok (.l2i, 1) := by decide +kernel
theorem dX9_matchSize_47 : decode cX9_matchSize 47 = .ok (.ireturn, 1) := by decide +kernel
theorem dX9_isNumber_0 : decode cX9_isNumber 0 = .ok (.aload_n 0, 1) := by decide +kernel
theorem dX9_isNumber_1 : decode cX9_isNumber 1 = .ok (.iload_n 1, 1) := by decide +kernel
theorem dX9_isNumber_2 : decode cX9_isNumber 2 = .ok (.invokevirtual 261, 3) := by decide +kernel
theorem dX9_isNumber_5 : decode cX9_isNumber 5 = .ok (.invokestatic 267, 3) := by decide +kernel
theorem dX9_isNumber_8 : decode cX9_isNumber 8 = .ok (.ifCond .ne 5, 3) := by decide +kernel
theorem dX9_isNumber_11 : decode cX9_isNumber 11 = .ok (.iconst 0, 1) := by decide +kernel
theorem dX9_isNumber_12 : decode cX9_isNumber 12 = .ok (.ireturn, 1) := by decide +kernel
theorem dX9_isNumber_13 : decode cX9_isNumber 13 = .ok (.aload_n 0, 1) := by decide +kernel
theorem dX9_isNumber_14 : decode cX9_isNumber 14 = .ok (.aload_n 0, 1) := by decide +kernel
theorem dX9_isNumber_15 : decode cX9_isNumber 15 = .ok (.iload_n 1, 1) := by decide +kernel
theorem dX9_isNumber_16 : decode cX9_isNumber 16 = .ok (.invokevirtual 261, 3) := by decide +kernel
theorem dX9_isNumber_19 : decode cX9_isNumber 19 = .ok (.bipush 48, 2) := by decide +kernel
theorem dX9_isNumber_21 : decode cX9_isNumber 21 = .ok (.isub, 1) := by decide +kernel
theorem dX9_isNumber_22 : decode cX9_isNumber 22 = .ok (.putfield 301, 3) := by decide +kernel
theorem dX9_isNumber_25 : decode cX9_isNumber 25 = .ok (.aload_n 0, 1) := by decide +kernel
theorem dX9_isNumber_26 : decode cX9_isNumber 26 = .ok (.iload_n 1, 1) := by decide +kernel
theorem dX9_isNumber_27 : decode cX9_isNumber 27 = .ok (.iconst 1, 1) := by decide +kernel
theorem dX9_isNumber_28 : decode cX9_isNumber 28 = .ok (.iadd, 1) := by decide +kernel
theorem dX9_isNumber_29 : decode cX9_isNumber 29 = .ok (.putfield 264, 3) := by decide +kernel
theorem dX9_isNumber_32 : decode cX9_isNumber 32 = .ok (.aload_n 0, 1) := by decide +kernel
theorem dX9_isNumber_33 : decode cX9_isNumber 33 = .ok (.iload_n 1, 1) := by decide +kernel
theorem dX9_isNumber_34 : decode cX9_isNumber 34 = .ok (.iconst 1, 1) := by decide +kernel
theorem dX9_isNumber_35 : decode cX9_isNumber 35 = .ok (.iadd, 1) := by decide +kernel
theorem dX9_isNumber_36 : decode cX9_isNumber 36 = .ok (.invokevirtual 261, 3) := by decide +kernel
theorem dX9_isNumber_39 : decode cX9_isNumber 39 = .ok (.invokestatic 267, 3) := by decide +kernel
theorem dX9_isNumber_42 : decode cX9_isNumber 42 = .ok (.ifCond .eq 32, 3) := by decide +kernel
theorem dX9_isNumber_45 : decode cX9_isNumber 45 = .ok (.aload_n 0, 1) := by decide +kernel
theorem dX9_isNumber_46 : decode cX9_isNumber 46 = .ok (.bipush 10, 2) := by decide +kernel
theorem dX9_isNumber_48 : decode cX9_isNumber 48 = .ok (.aload_n 0, 1) := by decide +kernel
theorem dX9_isNumber_49 : decode cX9_isNumber 49 = .ok (.getfield 301, 3) := by decide +kernel
theorem dX9_isNumber_52 : decode cX9_isNumber 52 = .ok (.imul, 1) := by decide +kernel
theorem dX9_isNumber_53 : decode cX9_isNumber 53 = .ok (.aload_n 0, 1) := by decide +kernel
theorem dX9_isNumber_54 : decode cX9_isNumber 54 = .ok (.iload_n 1, 1) := by decide +kernel
theorem dX9_isNumber_55 : decode cX9_isNumber 55 = .ok (.iconst 1, 1) := by decide +kernel
theorem dX9_isNumber_56 : decode cX9_isNumber 56 = .ok (.iadd, 1) := by decide +kernel
theorem dX9_isNumber_57 : decode cX9_isNumber 57 = .ok (.invokevirtual 261, 3) := by decide +kernel
theorem dX9_isNumber_60 : decode cX9_isNumber 60 = .ok (.iadd, 1) := by decide +kernel
theorem dX9_isNumber_61 : decode cX9_isNumber 61 = .ok (.bipush 48, 2) := by decide +kernel
theorem dX9_isNumber_63 : decode cX9_isNumber 63 = .ok (.isub, 1) := by decide +kernel
theorem dX9_isNumber_64 : decode cX9_isNumber 64 = .ok (.putfield 301, 3) := by decide +kernel
theorem dX9_isNumber_67 : decode cX9_isNumber 67 = .ok (.aload_n 0, 1) := by decide +kernel
theorem dX9_isNumber_68 : decode cX9_isNumber 68 = .ok (.iload_n 1, 1) := by decide +kernel
theorem dX9_isNumber_69 : decode cX9_isNumber 69 = .ok (.iconst 2, 1) := by decide +kernel
theorem dX9_isNumber_70 : decode cX9_isNumber 70 = .ok (.iadd, 1) := by decide +kernel
theorem dX9_isNumber_71 : decode cX9_isNumber 71 = .ok (.putfield 264, 3) := by decide +kernel
theorem dX9_isNumber_74 : decode cX9_isNumber 74 = .ok (.iconst 1, 1) := by decide +kernel
theorem dX9_isNumber_75 : decode cX9_isNumber 75 = .ok (.ireturn, 1) := by decide +kernel
theorem dX9_command_0 : decode cX9_command 0 = .ok (.aload_n 0, 1) := by decide +kernel
theorem dX9_command_1 : decode cX9_command 1 = .ok (.iload_n 1, 1) := by decide +kernel
theorem dX9_command_2 : decode cX9_command 2 = .ok (.invokevirtual 261, 3) := by decide +kernel
theorem dX9_command_5 : decode cX9_command 5 = .ok (.istore_n 2, 1) := by decide +kernel
theorem dX9_command_6 : decode cX9_command 6 = .ok (.iconst 4, 1) := by decide +kernel
theorem dX9_command_7 : decode cX9_command 7 = .ok (.aload_n 0, 1) := by decide +kernel
theorem dX9_command_8 : decode cX9_command 8 = .ok (.getfield 304, 3) := by decide +kernel
theorem dX9_command_11 : decode cX9_command 11 = .ok (.imul, 1) := by decide +kernel
theorem dX9_command_12 : decode cX9_command 12 = .ok (.istore_n 3, 1) := by decide +kernel
theorem dX9_command_13 : decode cX9_command 13 = .ok (.aload_n 0, 1) := by decide +kernel
theorem dX9_command_14 : decode cX9_command 14 = .ok (.getfield 60, 3) := by decide +kernel
theorem dX9_command_17 : decode cX9_command 17 = .ok (.iload_n 3, 1) := by decide +kernel
theorem dX9_command_18 : decode cX9_command 18 = .ok (.iload_n 2, 1) := by decide +kernel
theorem dX9_command_19 : decode cX9_command 19 = .ok (.iastore, 1) := by decide +kernel
theorem dX9_command_20 : decode cX9_command 20 = .ok (.iload_n 1, 1) := by decide +kernel
theorem dX9_command_21 : decode cX9_command 21 = .ok (.iconst 1, 1) := by decide +kernel
theorem dX9_command_22 : decode cX9_command 22 = .ok (.iadd, 1) := by decide +kernel
theorem dX9_command_23 : decode cX9_command 23 = .ok (.istore 4, 2) := by decide +kernel
theorem dX9_command_25 : decode cX9_command 25 = .ok (.iload_n 2, 1) := by decide +kernel
theorem dX9_command_26 : decode cX9_command 26 = .ok (.bipush 110, 2) := by decide +kernel
theorem dX9_command_28 : decode cX9_command 28 = .ok (.if_icmp .eq 9, 3) := by decide +kernel
theorem dX9_command_31 : decode cX9_command 31 = .ok (.iload_n 2, 1) := by decide +kernel
theorem dX9_command_32 : decode cX9_command 32 = .ok (.bipush 97, 2) := by decide +kernel
theorem dX9_command_34 : decode cX9_command 34 = .ok (.if_icmp .ne 41, 3) := by decide +kernel
theorem dX9_command_37 : decode cX9_command 37 = .ok (.aload_n 0, 1) := by decide +kernel
theorem dX9_command_38 : decode cX9_command 38 = .ok (.iload 4, 2) := by decide +kernel
theorem dX9_command_40 : decode cX9_command 40 = .ok (.invokevirtual 261, 3) := by decide +kernel
theorem dX9_command_43 : decode cX9_command 43 = .ok (.invokestatic 267, 3) := by decide +kernel
theorem dX9_command_46 : decode cX9_command 46 = .ok (.ifCond .ne 6, 3) := by decide +kernel
theorem dX9_command_49 : decode cX9_command 49 = .ok (.iload 4, 2) := by decide +kernel
theorem dX9_command_51 : decode cX9_command 51 = .ok (.ireturn, 1) := by decide +kernel
theorem dX9_command_52 : decode cX9_command 52 = .ok (.aload_n 0, 1) := by decide +kernel
theorem dX9_command_53 : decode cX9_command 53 = .ok (.getfield 60, 3) := by decide +kernel
theorem dX9_command_56 : decode cX9_command 56 = .ok (.iload_n 3, 1) := by decide +kernel
theorem dX9_command_57 : decode cX9_command 57 = .ok (.iconst 1, 1) := by decide +kernel
theorem dX9_command_58 : decode cX9_command 58 = .ok (.iadd, 1) := by decide +kernel
theorem dX9_command_59 : decode cX9_command 59 = .ok (.aload_n 0, 1) := by decide +kernel
theorem dX9_command_60 : decode cX9_command 60 = .ok (.iload 4, 2) := by decide +kernel
theorem dX9_command_62 : decode cX9_command 62 = .ok (.invokevirtual 261, 3) := by decide +kernel
theorem dX9_command_65 : decode cX9_command 65 = .ok (.bipush 48, 2) := by decide +kernel
theorem dX9_command_67 : decode cX9_command 67 = .ok (.isub, 1) := by decide +kernel
theorem dX9_command_68 : decode cX9_command 68 = .ok (.iastore, 1) := by decide +kernel
theorem dX9_command_69 : decode cX9_command 69 = .ok (.iinc 4 1, 3) := by decide +kernel
theorem dX9_command_72 : decode cX9_command 72 = .ok (.goto 158, 3) := by decide +kernel
theorem dX9_command_75 : decode cX9_command 75 = .ok (.iload_n 2, 1) := by decide +kernel
theorem dX9_command_76 : decode cX9_command 76 = .ok (.bipush 115, 2) := by decide +kernel
theorem dX9_command_78 : decode cX9_command 78 = .ok (.if_icmp .eq 15, 3) := by decide +kernel
theorem dX9_command_81 : decode cX9_command 81 = .ok (.iload_n 2, 1) := by decide +kernel
theorem dX9_command_82 : decode cX9_command 82 = .ok (.bipush 43, 2) := by decide +kernel
theorem dX9_command_84 : decode cX9_command 84 = .ok (.if_icmp .eq 9, 3) := by decide +kernel
theorem dX9_command_87 : decode cX9_command 87 = .ok (.iload_n 2, 1) := by decide +kernel
theorem dX9_command_88 : decode cX9_command 88 = .ok (.bipush 45, 2) := by decide +kernel
theorem dX9_command_90 : decode cX9_command 90 = .ok (.if_icmp .ne 126, 3) := by decide +kernel
theorem dX9_command_93 : decode cX9_command 93 = .ok (.iload_n 2, 1) := by decide +kernel
theorem dX9_command_94 : decode cX9_command 94 = .ok (.bipush 115, 2) := by decide +kernel
theorem dX9_command_96 : decode cX9_command 96 = .ok (.if_icmp .ne 7, 3) := by decide +kernel
theorem dX9_command_99 : decode cX9_command 99 = .ok (.iconst 3, 1) := by decide +kernel
theorem dX9_command_100 : decode cX9_command 100 = .ok (.goto 4, 3) := by decide +kernel
theorem dX9_command_103 : decode cX9_command 103 = .ok (.iconst 2, 1) := by decide +kernel
theorem dX9_command_104 : decode cX9_command 104 = .ok (.istore 5, 2) := by decide +kernel
theorem dX9_command_106 : decode cX9_command 106 = .ok (.iconst 1, 1) := by decide +kernel
theorem dX9_command_107 : decode cX9_command 107 = .ok (.istore 6, 2) := by decide +kernel
theorem dX9_command_109 : decode cX9_command 109 = .ok (.iload 6, 2) := by decide +kernel
theorem dX9_command_111 : decode cX9_command 111 = .ok (.iload 5, 2) := by decide +kernel
theorem dX9_command_113 : decode cX9_command 113 = .ok (.if_icmp .gt 100, 3) := by decide +kernel
theorem dX9_command_116 : decode cX9_command 116 = .ok (.iload 6, 2) := by decide +kernel
theorem dX9_command_118 : decode cX9_command 118 = .ok (.iconst 3, 1) := by decide +kernel
theorem dX9_command_119 : decode cX9_command 119 = .ok (.if_icmp .ne 30, 3) := by decide +kernel
theorem dX9_command_122 : decode cX9_command 122 = .ok (.aload_n 0, 1) := by decide +kernel
theorem dX9_command_123 : decode cX9_command 123 = .ok (.iload 4, 2) := by decide +kernel
theorem dX9_command_125 : decode cX9_command 125 = .ok (.invokevirtual 261, 3) := by decide +kernel
theorem dX9_command_128 : decode cX9_command 128 = .ok (.bipush 45, 2) := by decide +kernel
theorem dX9_command_130 : decode cX9_command 130 = .ok (.if_icmp .ne 19, 3) := by decide +kernel
theorem dX9_command_133 : decode cX9_command 133 = .ok (.aload_n 0, 1) := by decide +kernel
theorem dX9_command_134 : decode cX9_command 134 = .ok (.getfield 60, 3) := by decide +kernel
theorem dX9_command_137 : decode cX9_command 137 = .ok (.iload_n 3, 1) := by decide +kernel
theorem dX9_command_138 : decode cX9_command 138 = .ok (.iload 6, 2) := by decide +kernel
theorem dX9_command_140 : decode cX9_command 140 = .ok (.iadd, 1) := by decide +kernel
theorem dX9_command_141 : decode cX9_command 141 = .ok (.iconst (-1), 1) := by decide +kernel
theorem dX9_command_142 : decode cX9_command 142 = .ok (.iastore, 1) := by decide +kernel
theorem dX9_command_143 : decode cX9_command 143 = .ok (.iinc 4 1, 3) := by decide +kernel
theorem dX9_command_146 : decode cX9_command 146 = .ok (.goto 37, 3) := by decide +kernel
theorem dX9_command_149 : decode cX9_command 149 = .ok (.aload_n 0, 1) := by decide +kernel
theorem dX9_command_150 : decode cX9_command 150 = .ok (.iload 4, 2) := by decide +kernel
theorem dX9_command_152 : decode cX9_command 152 = .ok (.invokevirtual 307, 3) := by decide +kernel
theorem dX9_command_155 : decode cX9_command 155 = .ok (.ifCond .eq 25, 3) := by decide +kernel
theorem dX9_command_158 : decode cX9_command 158 = .ok (.aload_n 0, 1) := by decide +kernel
theorem dX9_command_159 : decode cX9_command 159 = .ok (.getfield 60, 3) := by decide +kernel
theorem dX9_command_162 : decode cX9_command 162 = .ok (.iload_n 3, 1) := by decide +kernel
theorem dX9_command_163 : decode cX9_command 163 = .ok (.iload 6, 2) := by decide +kernel
theorem dX9_command_165 : decode cX9_command 165 = .ok (.iadd, 1) := by decide +kernel
theorem dX9_command_166 : decode cX9_command 166 = .ok (.aload_n 0, 1) := by decide +kernel
theorem dX9_command_167 : decode cX9_command 167 = .ok (.getfield 301, 3) := by decide +kernel
theorem dX9_command_170 : decode cX9_command 170 = .ok (.iastore, 1) := by decide +kernel
theorem dX9_command_171 : decode cX9_command 171 = .ok (.aload_n 0, 1) := by decide +kernel
theorem dX9_command_172 : decode cX9_command 172 = .ok (.getfield 264, 3) := by decide +kernel
theorem dX9_command_175 : decode cX9_command 175 = .ok (.istore 4, 2) := by decide +kernel
theorem dX9_command_177 : decode cX9_command 177 = .ok (.goto 6, 3) := by decide +kernel
theorem dX9_command_180 : decode cX9_command 180 = .ok (.iload 4, 2) := by decide +kernel
theorem dX9_command_182 : decode cX9_command 182 = .ok (.ireturn, 1) := by decide +kernel
theorem dX9_command_183 : decode cX9_command 183 = .ok (.iload 6, 2) := by decide +kernel
theorem dX9_command_185 : decode cX9_command 185 = .ok (.iload 5, 2) := by decide +kernel
theorem dX9_command_187 : decode cX9_command 187 = .ok (.if_icmp .ge 20, 3) := by decide +kernel
theorem dX9_command_190 : decode cX9_command 190 = .ok (.aload_n 0, 1) := by decide +kernel
theorem dX9_command_191 : decode cX9_command 191 = .ok (.iload 4, 2) := by decide +kernel
theorem dX9_command_193 : decode cX9_command 193 = .ok (.invokevirtual 261, 3) := by decide +kernel
theorem dX9_command_196 : decode cX9_command 196 = .ok (.bipush 44, 2) := by decide +kernel
theorem dX9_command_198 : decode cX9_command 198 = .ok (.if_icmp .eq 6, 3) := by decide +kernel
theorem dX9_command_201 : decode cX9_command 201 = .ok (.iload 4, 2) := by decide +kernel
theorem dX9_command_203 : decode cX9_command 203 = .ok (.ireturn, 1) := by decide +kernel
theorem dX9_command_204 : decode cX9_command 204 = .ok (.iinc 4 1, 3) := by decide +kernel
theorem dX9_command_207 : decode cX9_command 207 = .ok (.iinc 6 1, 3) := by decide +kernel
theorem dX9_command_210 : decode cX9_command 210 = .ok (.goto (-101), 3) := by decide +kernel
theorem dX9_command_213 : decode cX9_command 213 = .ok (.goto 17, 3) := by decide +kernel
theorem dX9_command_216 : decode cX9_command 216 = .ok (.iload_n 2, 1) := by decide +kernel
theorem dX9_command_217 : decode cX9_command 217 = .ok (.bipush 119, 2) := by decide +kernel
theorem dX9_command_219 : decode cX9_command 219 = .ok (.if_icmp .eq 11, 3) := by decide +kernel
theorem dX9_command_222 : decode cX9_command 222 = .ok (.iload_n 2, 1) := by decide +kernel
theorem dX9_command_223 : decode cX9_command 223 = .ok (.bipush 99, 2) := by decide +kernel
theorem dX9_command_225 : decode cX9_command 225 = .ok (.if_icmp .eq 5, 3) := by decide +kernel
theorem dX9_command_228 : decode cX9_command 228 = .ok (.iload_n 1, 1) := by decide +kernel
theorem dX9_command_229 : decode cX9_command 229 = .ok (.ireturn, 1) := by decide +kernel
theorem dX9_command_230 : decode cX9_command 230 = .ok (.aload_n 0, 1) := by decide +kernel
theorem dX9_command_231 : decode cX9_command 231 = .ok (.iload 4, 2) := by decide +kernel
theorem dX9_command_233 : decode cX9_command 233 = .ok (.invokevirtual 261, 3) := by decide +kernel
theorem dX9_command_236 : decode cX9_command 236 = .ok (.bipush 59, 2) := by decide +kernel
theorem dX9_command_238 : decode cX9_command 238 = .ok (.if_icmp .eq 6, 3) := by decide +kernel
theorem dX9_command_241 : decode cX9_command 241 = .ok (.iload 4, 2) := by decide +kernel
theorem dX9_command_243 : decode cX9_command 243 = .ok (.ireturn, 1) := by decide +kernel
theorem dX9_command_244 : decode cX9_command 244 = .ok (.aload_n 0, 1) := by decide +kernel
theorem dX9_command_245 : decode cX9_command 245 = .ok (.dup, 1) := by decide +kernel
theorem dX9_command_246 : decode cX9_command 246 = .ok (.getfield 304, 3) := by decide +kernel
theorem dX9_command_249 : decode cX9_command 249 = .ok (.iconst 1, 1) := by decide +kernel
theorem dX9_command_250 : decode cX9_command 250 = .ok (.iadd, 1) := by decide +kernel
theorem dX9_command_251 : decode cX9_command 251 = .ok (.putfield 304, 3) := by decide +kernel
theorem dX9_command_254 : decode cX9_command 254 = .ok (.aload_n 0, 1) := by decide +kernel
theorem dX9_command_255 : decode cX9_command 255 = .ok (.iload 4, 2) := by decide +kernel
theorem dX9_command_257 : decode cX9_command 257 = .ok (.iconst 1, 1) := by decide +kernel
theorem dX9_command_258 : decode cX9_command 258 = .ok (.iadd, 1) := by decide +kernel
theorem dX9_command_259 : decode cX9_command 259 = .ok (.putfield 264, 3) := by decide +kernel
theorem dX9_command_262 : decode cX9_command 262 = .ok (.iconst (-1), 1) := by decide +kernel
theorem dX9_command_263 : decode cX9_command 263 = .ok (.ireturn, 1) := by decide +kernel
theorem dX9_laysCommands_0 : decode cX9_laysCommands 0 = .ok (.aload_n 0, 1) := by decide +kernel
theorem dX9_laysCommands_1 : decode cX9_laysCommands 1 = .ok (.iconst 0, 1) := by decide +kernel
theorem dX9_laysCommands_2 : decode cX9_laysCommands 2 = .ok (.putfield 304, 3) := by decide +kernel
theorem dX9_laysCommands_5 : decode cX9_laysCommands 5 = .ok (.iconst 0, 1) := by decide +kernel
theorem dX9_laysCommands_6 : decode cX9_laysCommands 6 = .ok (.istore_n 1, 1) := by decide +kernel
theorem dX9_laysCommands_7 : decode cX9_laysCommands 7 = .ok (.iload_n 1, 1) := by decide +kernel
theorem dX9_laysCommands_8 : decode cX9_laysCommands 8 = .ok (.aload_n 0, 1) := by decide +kernel
theorem dX9_laysCommands_9 : decode cX9_laysCommands 9 = .ok (.getfield 248, 3) := by decide +kernel
theorem dX9_laysCommands_12 : decode cX9_laysCommands 12 = .ok (.if_icmp .ge 24, 3) := by decide +kernel
theorem dX9_laysCommands_15 : decode cX9_laysCommands 15 = .ok (.aload_n 0, 1) := by decide +kernel
theorem dX9_laysCommands_16 : decode cX9_laysCommands 16 = .ok (.iload_n 1, 1) := by decide +kernel
theorem dX9_laysCommands_17 : decode cX9_laysCommands 17 = .ok (.invokevirtual 310, 3) := by decide +kernel
theorem dX9_laysCommands_20 : decode cX9_laysCommands 20 = .ok (.istore_n 2, 1) := by decide +kernel
theorem dX9_laysCommands_21 : decode cX9_laysCommands 21 = .ok (.iload_n 2, 1) := by decide +kernel
theorem dX9_laysCommands_22 : decode cX9_laysCommands 22 = .ok (.iconst (-1), 1) := by decide +kernel
theorem dX9_laysCommands_23 : decode cX9_laysCommands 23 = .ok (.if_icmp .eq 5, 3) := by decide +kernel
theorem dX9_laysCommands_26 : decode cX9_laysCommands 26 = .ok (.iload_n 2, 1) := by decide +kernel
theorem dX9_laysCommands_27 : decode cX9_laysCommands 27 = .ok (.ireturn, 1) := by decide +kernel
theorem dX9_laysCommands_28 : decode cX9_laysCommands 28 = .ok (.aload_n 0, 1) := by decide +kernel
theorem dX9_laysCommands_29 : decode cX9_laysCommands 29 = .ok (.getfield 264, 3) := by decide +kernel
theorem dX9_laysCommands_32 : decode cX9_laysCommands 32 = .ok (.istore_n 1, 1) := by decide +kernel
theorem dX9_laysCommands_33 : decode cX9_laysCommands 33 = .ok (.goto (-26), 3) := by decide +kernel
theorem dX9_laysCommands_36 : decode cX9_laysCommands 36 = .ok (.iconst (-1), 1) := by decide +kernel
theorem dX9_laysCommands_37 : decode cX9_laysCommands 37 = .ok (.ireturn, 1) := by decide +kernel
theorem dX9_does_0 : decode cX9_does 0 = .ok (.aload_n 0, 1) := by decide +kernel
theorem dX9_does_1 : decode cX9_does 1 = .ok (.getfield 60, 3) := by decide +kernel
theorem dX9_does_4 : decode cX9_does 4 = .ok (.iconst 4, 1) := by decide +kernel
theorem dX9_does_5 : decode cX9_does 5 = .ok (.iload_n 1, 1) := by decide +kernel
theorem dX9_does_6 : decode cX9_does 6 = .ok (.imul, 1) := by decide +kernel
theorem dX9_does_7 : decode cX9_does 7 = .ok (.iconst 1, 1) := by decide +kernel
theorem dX9_does_8 : decode cX9_does 8 = .ok (.iadd, 1) := by decide +kernel
theorem dX9_does_9 : decode cX9_does 9 = .ok (.iaload, 1) := by decide +kernel
theorem dX9_does_10 : decode cX9_does 10 = .ok (.istore_n 2, 1) := by decide +kernel
theorem dX9_does_11 : decode cX9_does 11 = .ok (.aload_n 0, 1) := by decide +kernel
theorem dX9_does_12 : decode cX9_does 12 = .ok (.getfield 60, 3) := by decide +kernel
theorem dX9_does_15 : decode cX9_does 15 = .ok (.iconst 4, 1) := by decide +kernel
theorem dX9_does_16 : decode cX9_does 16 = .ok (.iload_n 1, 1) := by decide +kernel
theorem dX9_does_17 : decode cX9_does 17 = .ok (.imul, 1) := by decide +kernel
theorem dX9_does_18 : decode cX9_does 18 = .ok (.iconst 2, 1) := by decide +kernel
theorem dX9_does_19 : decode cX9_does 19 = .ok (.iadd, 1) := by decide +kernel
theorem dX9_does_20 : decode cX9_does 20 = .ok (.iaload, 1) := by decide +kernel
theorem dX9_does_21 : decode cX9_does 21 = .ok (.istore_n 3, 1) := by decide +kernel
theorem dX9_does_22 : decode cX9_does 22 = .ok (.aload_n 0, 1) := by decide +kernel
theorem dX9_does_23 : decode cX9_does 23 = .ok (.getfield 60, 3) := by decide +kernel
theorem dX9_does_26 : decode cX9_does 26 = .ok (.iconst 4, 1) := by decide +kernel
theorem dX9_does_27 : decode cX9_does 27 = .ok (.iload_n 1, 1) := by decide +kernel
theorem dX9_does_28 : decode cX9_does 28 = .ok (.imul, 1) := by decide +kernel
theorem dX9_does_29 : decode cX9_does 29 = .ok (.iconst 3, 1) := by decide +kernel
theorem dX9_does_30 : decode cX9_does 30 = .ok (.iadd, 1) := by decide +kernel
theorem dX9_does_31 : decode cX9_does 31 = .ok (.iaload, 1) := by decide +kernel
theorem dX9_does_32 : decode cX9_does 32 = .ok (.istore 4, 2) := by decide +kernel
theorem dX9_does_34 : decode cX9_does 34 = .ok (.aload_n 0, 1) := by decide +kernel
theorem dX9_does_35 : decode cX9_does 35 = .ok (.getfield 60, 3) := by decide +kernel
theorem dX9_does_38 : decode cX9_does 38 = .ok (.iconst 4, 1) := by decide +kernel
theorem dX9_does_39 : decode cX9_does 39 = .ok (.iload_n 1, 1) := by decide +kernel
theorem dX9_does_40 : decode cX9_does 40 = .ok (.imul, 1) := by decide +kernel
theorem dX9_does_41 : decode cX9_does 41 = .ok (.iaload, 1) := by decide +kernel
theorem dX9_does_42 : decode cX9_does 42 = .ok (.lookupswitch 214 #[(43, 152), (45, 182), (97, 81), (110, 58), (115, 122), (119, 101)], 58) := by decide +kernel
theorem dX9_does_100 : decode cX9_does 100 = .ok (.aload_n 0, 1) := by decide +kernel
theorem dX9_does_101 : decode cX9_does 101 = .ok (.iload_n 2, 1) := by decide +kernel
theorem dX9_does_102 : decode cX9_does 102 = .ok (.invokevirtual 116, 3) := by decide +kernel
theorem dX9_does_105 : decode cX9_does 105 = .ok (.ifCond .eq 5, 3) := by decide +kernel
theorem dX9_does_108 : decode cX9_does 108 = .ok (.iconst 0, 1) := by decide +kernel
theorem dX9_does_109 : decode cX9_does 109 = .ok (.ireturn, 1) := by decide +kernel
theorem dX9_does_110 : decode cX9_does 110 = .ok (.aload_n 0, 1) := by decide +kernel
theorem dX9_does_111 : decode cX9_does 111 = .ok (.iload_n 2, 1) := by decide +kernel
theorem dX9_does_112 : decode cX9_does 112 = .ok (.aload_n 0, 1) := by decide +kernel
theorem dX9_does_113 : decode cX9_does 113 = .ok (.iload_n 2, 1) := by decide +kernel
theorem dX9_does_114 : decode cX9_does 114 = .ok (.invokevirtual 82, 3) := by decide +kernel
theorem dX9_does_117 : decode cX9_does 117 = .ok (.invokevirtual 119, 3) := by decide +kernel
theorem dX9_does_120 : decode cX9_does 120 = .ok (.pop, 1) := by decide +kernel
theorem dX9_does_121 : decode cX9_does 121 = .ok (.iconst 1, 1) := by decide +kernel
theorem dX9_does_122 : decode cX9_does 122 = .ok (.ireturn, 1) := by decide +kernel
theorem dX9_does_123 : decode cX9_does 123 = .ok (.aload_n 0, 1) := by decide +kernel
theorem dX9_does_124 : decode cX9_does 124 = .ok (.iload_n 2, 1) := by decide +kernel
theorem dX9_does_125 : decode cX9_does 125 = .ok (.invokevirtual 122, 3) := by decide +kernel
theorem dX9_does_128 : decode cX9_does 128 = .ok (.ifCond .eq 5, 3) := by decide +kernel
theorem dX9_does_131 : decode cX9_does 131 = .ok (.iconst 0, 1) := by decide +kernel
theorem dX9_does_132 : decode cX9_does 132 = .ok (.ireturn, 1) := by decide +kernel
theorem dX9_does_133 : decode cX9_does 133 = .ok (.aload_n 0, 1) := by decide +kernel
theorem dX9_does_134 : decode cX9_does 134 = .ok (.bipush 10, 2) := by decide +kernel
theorem dX9_does_136 : decode cX9_does 136 = .ok (.iload_n 2, 1) := by decide +kernel
theorem dX9_does_137 : decode cX9_does 137 = .ok (.invokevirtual 119, 3) := by decide +kernel
theorem dX9_does_140 : decode cX9_does 140 = .ok (.pop, 1) := by decide +kernel
theorem dX9_does_141 : decode cX9_does 141 = .ok (.iconst 1, 1) := by decide +kernel
theorem dX9_does_142 : decode cX9_does 142 = .ok (.ireturn, 1) := by decide +kernel
theorem dX9_does_143 : decode cX9_does 143 = .ok (.aload_n 0, 1) := by decide +kernel
theorem dX9_does_144 : decode cX9_does 144 = .ok (.invokevirtual 112, 3) := by decide +kernel
theorem dX9_does_147 : decode cX9_does 147 = .ok (.bipush 40, 2) := by decide +kernel
theorem dX9_does_149 : decode cX9_does 149 = .ok (.if_icmp .ne 5, 3) := by decide +kernel
theorem dX9_does_152 : decode cX9_does 152 = .ok (.iconst 0, 1) := by decide +kernel
theorem dX9_does_153 : decode cX9_does 153 = .ok (.ireturn, 1) := by decide +kernel
theorem dX9_does_154 : decode cX9_does 154 = .ok (.aload_n 0, 1) := by decide +kernel
theorem dX9_does_155 : decode cX9_does 155 = .ok (.bipush 11, 2) := by decide +kernel
theorem dX9_does_157 : decode cX9_does 157 = .ok (.iconst 1, 1) := by decide +kernel
theorem dX9_does_158 : decode cX9_does 158 = .ok (.invokevirtual 119, 3) := by decide +kernel
theorem dX9_does_161 : decode cX9_does 161 = .ok (.pop, 1) := by decide +kernel
theorem dX9_does_162 : decode cX9_does 162 = .ok (.iconst 1, 1) := by decide +kernel
theorem dX9_does_163 : decode cX9_does 163 = .ok (.ireturn, 1) := by decide +kernel
theorem dX9_does_164 : decode cX9_does 164 = .ok (.aload_n 0, 1) := by decide +kernel
theorem dX9_does_165 : decode cX9_does 165 = .ok (.iload_n 2, 1) := by decide +kernel
theorem dX9_does_166 : decode cX9_does 166 = .ok (.iload_n 3, 1) := by decide +kernel
theorem dX9_does_167 : decode cX9_does 167 = .ok (.iload 4, 2) := by decide +kernel
theorem dX9_does_169 : decode cX9_does 169 = .ok (.invokevirtual 128, 3) := by decide +kernel
theorem dX9_does_172 : decode cX9_does 172 = .ok (.ifCond .eq 5, 3) := by decide +kernel
theorem dX9_does_175 : decode cX9_does 175 = .ok (.iconst 0, 1) := by decide +kernel
theorem dX9_does_176 : decode cX9_does 176 = .ok (.ireturn, 1) := by decide +kernel
theorem dX9_does_177 : decode cX9_does 177 = .ok (.aload_n 0, 1) := by decide +kernel
theorem dX9_does_178 : decode cX9_does 178 = .ok (.getfield 7, 3) := by decide +kernel
theorem dX9_does_181 : decode cX9_does 181 = .ok (.iload_n 2, 1) := by decide +kernel
theorem dX9_does_182 : decode cX9_does 182 = .ok (.invokestatic 103, 3) := by decide +kernel
theorem dX9_does_185 : decode cX9_does 185 = .ok (.iconst 5, 1) := by decide +kernel
theorem dX9_does_186 : decode cX9_does 186 = .ok (.iadd, 1) := by decide +kernel
theorem dX9_does_187 : decode cX9_does 187 = .ok (.iload_n 3, 1) := by decide +kernel
theorem dX9_does_188 : decode cX9_does 188 = .ok (.iadd, 1) := by decide +kernel
theorem dX9_does_189 : decode cX9_does 189 = .ok (.iload 4, 2) := by decide +kernel
theorem dX9_does_191 : decode cX9_does 191 = .ok (.iastore, 1) := by decide +kernel
theorem dX9_does_192 : decode cX9_does 192 = .ok (.iconst 1, 1) := by decide +kernel
theorem dX9_does_193 : decode cX9_does 193 = .ok (.ireturn, 1) := by decide +kernel
theorem dX9_does_194 : decode cX9_does 194 = .ok (.aload_n 0, 1) := by decide +kernel
theorem dX9_does_195 : decode cX9_does 195 = .ok (.iload_n 2, 1) := by decide +kernel
theorem dX9_does_196 : decode cX9_does 196 = .ok (.iload_n 3, 1) := by decide +kernel
theorem dX9_does_197 : decode cX9_does 197 = .ok (.invokevirtual 132, 3) := by decide +kernel
theorem dX9_does_200 : decode cX9_does 200 = .ok (.ifCond .eq 5, 3) := by decide +kernel
theorem dX9_does_203 : decode cX9_does 203 = .ok (.iconst 0, 1) := by decide +kernel
theorem dX9_does_204 : decode cX9_does 204 = .ok (.ireturn, 1) := by decide +kernel
theorem dX9_does_205 : decode cX9_does 205 = .ok (.aload_n 0, 1) := by decide +kernel
theorem dX9_does_206 : decode cX9_does 206 = .ok (.getfield 7, 3) := by decide +kernel
theorem dX9_does_209 : decode cX9_does 209 = .ok (.iload_n 2, 1) := by decide +kernel
theorem dX9_does_210 : decode cX9_does 210 = .ok (.invokestatic 103, 3) := by decide +kernel
theorem dX9_does_213 : decode cX9_does 213 = .ok (.iconst 4, 1) := by decide +kernel
theorem dX9_does_214 : decode cX9_does 214 = .ok (.iadd, 1) := by decide +kernel
theorem dX9_does_215 : decode cX9_does 215 = .ok (.dup2, 1) := by decide +kernel
theorem dX9_does_216 : decode cX9_does 216 = .ok (.iaload, 1) := by decide +kernel
theorem dX9_does_217 : decode cX9_does 217 = .ok (.iconst 1, 1) := by decide +kernel
theorem dX9_does_218 : decode cX9_does 218 = .ok (.iload_n 3, 1) := by decide +kernel
theorem dX9_does_219 : decode cX9_does 219 = .ok (.ishl, 1) := by decide +kernel
theorem dX9_does_220 : decode cX9_does 220 = .ok (.ior, 1) := by decide +kernel
theorem dX9_does_221 : decode cX9_does 221 = .ok (.iastore, 1) := by decide +kernel
theorem dX9_does_222 : decode cX9_does 222 = .ok (.iconst 1, 1) := by decide +kernel
theorem dX9_does_223 : decode cX9_does 223 = .ok (.ireturn, 1) := by decide +kernel
theorem dX9_does_224 : decode cX9_does 224 = .ok (.aload_n 0, 1) := by decide +kernel
theorem dX9_does_225 : decode cX9_does 225 = .ok (.iload_n 2, 1) := by decide +kernel
theorem dX9_does_226 : decode cX9_does 226 = .ok (.iload_n 3, 1) := by decide +kernel
theorem dX9_does_227 : decode cX9_does 227 = .ok (.invokevirtual 135, 3) := by decide +kernel
theorem dX9_does_230 : decode cX9_does 230 = .ok (.ifCond .eq 5, 3) := by decide +kernel
theorem dX9_does_233 : decode cX9_does 233 = .ok (.iconst 0, 1) := by decide +kernel
theorem dX9_does_234 : decode cX9_does 234 = .ok (.ireturn, 1) := by decide +kernel
theorem dX9_does_235 : decode cX9_does 235 = .ok (.aload_n 0, 1) := by decide +kernel
theorem dX9_does_236 : decode cX9_does 236 = .ok (.getfield 7, 3) := by decide +kernel
theorem dX9_does_239 : decode cX9_does 239 = .ok (.iload_n 2, 1) := by decide +kernel
theorem dX9_does_240 : decode cX9_does 240 = .ok (.invokestatic 103, 3) := by decide +kernel
theorem dX9_does_243 : decode cX9_does 243 = .ok (.iconst 4, 1) := by decide +kernel
theorem dX9_does_244 : decode cX9_does 244 = .ok (.iadd, 1) := by decide +kernel
theorem dX9_does_245 : decode cX9_does 245 = .ok (.dup2, 1) := by decide +kernel
theorem dX9_does_246 : decode cX9_does 246 = .ok (.iaload, 1) := by decide +kernel
theorem dX9_does_247 : decode cX9_does 247 = .ok (.iconst 1, 1) := by decide +kernel
theorem dX9_does_248 : decode cX9_does 248 = .ok (.iload_n 3, 1) := by decide +kernel
theorem dX9_does_249 : decode cX9_does 249 = .ok (.ishl, 1) := by decide +kernel
theorem dX9_does_250 : decode cX9_does 250 = .ok (.iconst (-1), 1) := by decide +kernel
theorem dX9_does_251 : decode cX9_does 251 = .ok (.ixor, 1) := by decide +kernel
theorem dX9_does_252 : decode cX9_does 252 = .ok (.iand, 1) := by decide +kernel
theorem dX9_does_253 : decode cX9_does 253 = .ok (.iastore, 1) := by decide +kernel
theorem dX9_does_254 : decode cX9_does 254 = .ok (.iconst 1, 1) := by decide +kernel
theorem dX9_does_255 : decode cX9_does 255 = .ok (.ireturn, 1) := by decide +kernel
theorem dX9_does_256 : decode cX9_does 256 = .ok (.aload_n 0, 1) := by decide +kernel
theorem dX9_does_257 : decode cX9_does 257 = .ok (.invokevirtual 142, 3) := by decide +kernel
theorem dX9_does_260 : decode cX9_does 260 = .ok (.pop, 1) := by decide +kernel
theorem dX9_does_261 : decode cX9_does 261 = .ok (.iconst 1, 1) := by decide +kernel
theorem dX9_does_262 : decode cX9_does 262 = .ok (.ireturn, 1) := by decide +kernel
theorem dX9_execute_0 : decode cX9_execute 0 = .ok (.aload_n 0, 1) := by decide +kernel
theorem dX9_execute_1 : decode cX9_execute 1 = .ok (.iconst 0, 1) := by decide +kernel
theorem dX9_execute_2 : decode cX9_execute 2 = .ok (.putfield 63, 3) := by decide +kernel
theorem dX9_execute_5 : decode cX9_execute 5 = .ok (.aload_n 0, 1) := by decide +kernel
theorem dX9_execute_6 : decode cX9_execute 6 = .ok (.invokevirtual 313, 3) := by decide +kernel
theorem dX9_execute_9 : decode cX9_execute 9 = .ok (.istore_n 1, 1) := by decide +kernel
theorem dX9_execute_10 : decode cX9_execute 10 = .ok (.iload_n 1, 1) := by decide +kernel
theorem dX9_execute_11 : decode cX9_execute 11 = .ok (.iconst (-1), 1) := by decide +kernel
theorem dX9_execute_12 : decode cX9_execute 12 = .ok (.if_icmp .eq 8, 3) := by decide +kernel
theorem dX9_execute_15 : decode cX9_execute 15 = .ok (.bipush (-10), 2) := by decide +kernel
theorem dX9_execute_17 : decode cX9_execute 17 = .ok (.iload_n 1, 1) := by decide +kernel
theorem dX9_execute_18 : decode cX9_execute 18 = .ok (.isub, 1) := by decide +kernel
theorem dX9_execute_19 : decode cX9_execute 19 = .ok (.ireturn, 1) := by decide +kernel
theorem dX9_execute_20 : decode cX9_execute 20 = .ok (.iconst 0, 1) := by decide +kernel
theorem dX9_execute_21 : decode cX9_execute 21 = .ok (.istore_n 2, 1) := by decide +kernel
theorem dX9_execute_22 : decode cX9_execute 22 = .ok (.iload_n 2, 1) := by decide +kernel
theorem dX9_execute_23 : decode cX9_execute 23 = .ok (.sipush 552, 3) := by decide +kernel
theorem dX9_execute_26 : decode cX9_execute 26 = .ok (.if_icmp .ge 21, 3) := by decide +kernel
theorem dX9_execute_29 : decode cX9_execute 29 = .ok (.aload_n 0, 1) := by decide +kernel
theorem dX9_execute_30 : decode cX9_execute 30 = .ok (.getfield 16, 3) := by decide +kernel
theorem dX9_execute_33 : decode cX9_execute 33 = .ok (.iload_n 2, 1) := by decide +kernel
theorem dX9_execute_34 : decode cX9_execute 34 = .ok (.aload_n 0, 1) := by decide +kernel
theorem dX9_execute_35 : decode cX9_execute 35 = .ok (.getfield 7, 3) := by decide +kernel
theorem dX9_execute_38 : decode cX9_execute 38 = .ok (.iload_n 2, 1) := by decide +kernel
theorem dX9_execute_39 : decode cX9_execute 39 = .ok (.iaload, 1) := by decide +kernel
theorem dX9_execute_40 : decode cX9_execute 40 = .ok (.iastore, 1) := by decide +kernel
theorem dX9_execute_41 : decode cX9_execute 41 = .ok (.iinc 2 1, 3) := by decide +kernel
theorem dX9_execute_44 : decode cX9_execute 44 = .ok (.goto (-22), 3) := by decide +kernel
theorem dX9_execute_47 : decode cX9_execute 47 = .ok (.iconst 0, 1) := by decide +kernel
theorem dX9_execute_48 : decode cX9_execute 48 = .ok (.istore_n 2, 1) := by decide +kernel
theorem dX9_execute_49 : decode cX9_execute 49 = .ok (.iload_n 2, 1) := by decide +kernel
theorem dX9_execute_50 : decode cX9_execute 50 = .ok (.aload_n 0, 1) := by decide +kernel
theorem dX9_execute_51 : decode cX9_execute 51 = .ok (.getfield 304, 3) := by decide +kernel
theorem dX9_execute_54 : decode cX9_execute 54 = .ok (.if_icmp .ge 50, 3) := by decide +kernel
theorem dX9_execute_57 : decode cX9_execute 57 = .ok (.aload_n 0, 1) := by decide +kernel
theorem dX9_execute_58 : decode cX9_execute 58 = .ok (.iload_n 2, 1) := by decide +kernel
theorem dX9_execute_59 : decode cX9_execute 59 = .ok (.invokevirtual 316, 3) := by decide +kernel
theorem dX9_execute_62 : decode cX9_execute 62 = .ok (.ifCond .ne 36, 3) := by decide +kernel
theorem dX9_execute_65 : decode cX9_execute 65 = .ok (.iconst 0, 1) := by decide +kernel
theorem dX9_execute_66 : decode cX9_execute 66 = .ok (.istore_n 3, 1) := by decide +kernel
theorem dX9_execute_67 : decode cX9_execute 67 = .ok (.iload_n 3, 1) := by decide +kernel
theorem dX9_execute_68 : decode cX9_execute 68 = .ok (.sipush 552, 3) := by decide +kernel
theorem dX9_execute_71 : decode cX9_execute 71 = .ok (.if_icmp .ge 21, 3) := by decide +kernel
theorem dX9_execute_74 : decode cX9_execute 74 = .ok (.aload_n 0, 1) := by decide +kernel
theorem dX9_execute_75 : decode cX9_execute 75 = .ok (.getfield 7, 3) := by decide +kernel
theorem dX9_execute_78 : decode cX9_execute 78 = .ok (.iload_n 3, 1) := by decide +kernel
theorem dX9_execute_79 : decode cX9_execute 79 = .ok (.aload_n 0, 1) := by decide +kernel
theorem dX9_execute_80 : decode cX9_execute 80 = .ok (.getfield 16, 3) := by decide +kernel
theorem dX9_execute_83 : decode cX9_execute 83 = .ok (.iload_n 3, 1) := by decide +kernel
theorem dX9_execute_84 : decode cX9_execute 84 = .ok (.iaload, 1) := by decide +kernel
theorem dX9_execute_85 : decode cX9_execute 85 = .ok (.iastore, 1) := by decide +kernel
theorem dX9_execute_86 : decode cX9_execute 86 = .ok (.iinc 3 1, 3) := by decide +kernel
theorem dX9_execute_89 : decode cX9_execute 89 = .ok (.goto (-22), 3) := by decide +kernel
theorem dX9_execute_92 : decode cX9_execute 92 = .ok (.sipush (-1000), 3) := by decide +kernel
theorem dX9_execute_95 : decode cX9_execute 95 = .ok (.iload_n 2, 1) := by decide +kernel
theorem dX9_execute_96 : decode cX9_execute 96 = .ok (.isub, 1) := by decide +kernel
theorem dX9_execute_97 : decode cX9_execute 97 = .ok (.ireturn, 1) := by decide +kernel
theorem dX9_execute_98 : decode cX9_execute 98 = .ok (.iinc 2 1, 3) := by decide +kernel
theorem dX9_execute_101 : decode cX9_execute 101 = .ok (.goto (-52), 3) := by decide +kernel
theorem dX9_execute_104 : decode cX9_execute 104 = .ok (.aload_n 0, 1) := by decide +kernel
theorem dX9_execute_105 : decode cX9_execute 105 = .ok (.aload_n 0, 1) := by decide +kernel
theorem dX9_execute_106 : decode cX9_execute 106 = .ok (.getfield 16, 3) := by decide +kernel
theorem dX9_execute_109 : decode cX9_execute 109 = .ok (.invokevirtual 70, 3) := by decide +kernel
theorem dX9_execute_112 : decode cX9_execute 112 = .ok (.aload_n 0, 1) := by decide +kernel
theorem dX9_execute_113 : decode cX9_execute 113 = .ok (.getfield 304, 3) := by decide +kernel
theorem dX9_execute_116 : decode cX9_execute 116 = .ok (.ireturn, 1) := by decide +kernel
theorem dX9_isPicture_0 : decode cX9_isPicture 0 = .ok (.iload_n 0, 1) := by decide +kernel
theorem dX9_isPicture_1 : decode cX9_isPicture 1 = .ok (.iconst 0, 1) := by decide +kernel
theorem dX9_isPicture_2 : decode cX9_isPicture 2 = .ok (.iconst 1, 1) := by decide +kernel
theorem dX9_isPicture_3 : decode cX9_isPicture 3 = .ok (.invokestatic 78, 3) := by decide +kernel
theorem dX9_isPicture_6 : decode cX9_isPicture 6 = .ok (.ireturn, 1) := by decide +kernel
theorem dX9_serialIn_0 : decode cX9_serialIn 0 = .ok (.aload_n 0, 1) := by decide +kernel
theorem dX9_serialIn_1 : decode cX9_serialIn 1 = .ok (.getfield 7, 3) := by decide +kernel
theorem dX9_serialIn_4 : decode cX9_serialIn 4 = .ok (.iload_n 1, 1) := by decide +kernel
theorem dX9_serialIn_5 : decode cX9_serialIn 5 = .ok (.invokestatic 103, 3) := by decide +kernel
theorem dX9_serialIn_8 : decode cX9_serialIn 8 = .ok (.iconst 5, 1) := by decide +kernel
theorem dX9_serialIn_9 : decode cX9_serialIn 9 = .ok (.iadd, 1) := by decide +kernel
theorem dX9_serialIn_10 : decode cX9_serialIn 10 = .ok (.iload_n 2, 1) := by decide +kernel
theorem dX9_serialIn_11 : decode cX9_serialIn 11 = .ok (.iadd, 1) := by decide +kernel
theorem dX9_serialIn_12 : decode cX9_serialIn 12 = .ok (.iaload, 1) := by decide +kernel
theorem dX9_serialIn_13 : decode cX9_serialIn 13 = .ok (.istore_n 3, 1) := by decide +kernel
theorem dX9_serialIn_14 : decode cX9_serialIn 14 = .ok (.iload_n 3, 1) := by decide +kernel
theorem dX9_serialIn_15 : decode cX9_serialIn 15 = .ok (.iconst (-1), 1) := by decide +kernel
theorem dX9_serialIn_16 : decode cX9_serialIn 16 = .ok (.if_icmp .ne 7, 3) := by decide +kernel
theorem dX9_serialIn_19 : decode cX9_serialIn 19 = .ok (.iconst 0, 1) := by decide +kernel
theorem dX9_serialIn_20 : decode cX9_serialIn 20 = .ok (.goto 14, 3) := by decide +kernel
theorem dX9_serialIn_23 : decode cX9_serialIn 23 = .ok (.aload_n 0, 1) := by decide +kernel
theorem dX9_serialIn_24 : decode cX9_serialIn 24 = .ok (.getfield 7, 3) := by decide +kernel
theorem dX9_serialIn_27 : decode cX9_serialIn 27 = .ok (.iload_n 3, 1) := by decide +kernel
theorem dX9_serialIn_28 : decode cX9_serialIn 28 = .ok (.invokestatic 103, 3) := by decide +kernel
theorem dX9_serialIn_31 : decode cX9_serialIn 31 = .ok (.iconst 0, 1) := by decide +kernel
theorem dX9_serialIn_32 : decode cX9_serialIn 32 = .ok (.iadd, 1) := by decide +kernel
theorem dX9_serialIn_33 : decode cX9_serialIn 33 = .ok (.iaload, 1) := by decide +kernel
theorem dX9_serialIn_34 : decode cX9_serialIn 34 = .ok (.ireturn, 1) := by decide +kernel
theorem dX9_take_0 : decode cX9_take 0 = .ok (.aload_n 0, 1) := by decide +kernel
theorem dX9_take_1 : decode cX9_take 1 = .ok (.aload_n 0, 1) := by decide +kernel
theorem dX9_take_2 : decode cX9_take 2 = .ok (.iload_n 1, 1) := by decide +kernel
theorem dX9_take_3 : decode cX9_take 3 = .ok (.invokestatic 319, 3) := by decide +kernel
theorem dX9_take_6 : decode cX9_take 6 = .ok (.invokevirtual 187, 3) := by decide +kernel
theorem dX9_take_9 : decode cX9_take 9 = .ok (.invokevirtual 74, 3) := by decide +kernel
theorem dX9_take_12 : decode cX9_take 12 = .ok (.ifCond .eq 5, 3) := by decide +kernel
theorem dX9_take_15 : decode cX9_take 15 = .ok (.iconst 0, 1) := by decide +kernel
theorem dX9_take_16 : decode cX9_take 16 = .ok (.ireturn, 1) := by decide +kernel
theorem dX9_take_17 : decode cX9_take 17 = .ok (.iconst 0, 1) := by decide +kernel
theorem dX9_take_18 : decode cX9_take 18 = .ok (.istore_n 2, 1) := by decide +kernel
theorem dX9_take_19 : decode cX9_take 19 = .ok (.iconst 0, 1) := by decide +kernel
theorem dX9_take_20 : decode cX9_take 20 = .ok (.istore_n 3, 1) := by decide +kernel
theorem dX9_take_21 : decode cX9_take 21 = .ok (.iload_n 3, 1) := by decide +kernel
theorem dX9_take_22 : decode cX9_take 22 = .ok (.bipush 40, 2) := by decide +kernel
theorem dX9_take_24 : decode cX9_take 24 = .ok (.if_icmp .ge 135, 3) := by decide +kernel
theorem dX9_take_27 : decode cX9_take 27 = .ok (.sipush 520, 3) := by decide +kernel
theorem dX9_take_30 : decode cX9_take 30 = .ok (.iload_n 1, 1) := by decide +kernel
theorem dX9_take_31 : decode cX9_take 31 = .ok (.imul, 1) := by decide +kernel
theorem dX9_take_32 : decode cX9_take 32 = .ok (.bipush 13, 2) := by decide +kernel
theorem dX9_take_34 : decode cX9_take 34 = .ok (.iload_n 3, 1) := by decide +kernel
theorem dX9_take_35 : decode cX9_take 35 = .ok (.imul, 1) := by decide +kernel
theorem dX9_take_36 : decode cX9_take 36 = .ok (.iadd, 1) := by decide +kernel
theorem dX9_take_37 : decode cX9_take 37 = .ok (.istore 4, 2) := by decide +kernel
theorem dX9_take_39 : decode cX9_take 39 = .ok (.aload_n 0, 1) := by decide +kernel
theorem dX9_take_40 : decode cX9_take 40 = .ok (.iload_n 3, 1) := by decide +kernel
theorem dX9_take_41 : decode cX9_take 41 = .ok (.invokevirtual 106, 3) := by decide +kernel
theorem dX9_take_44 : decode cX9_take 44 = .ok (.istore 5, 2) := by decide +kernel
theorem dX9_take_46 : decode cX9_take 46 = .ok (.iload_n 2, 1) := by decide +kernel
theorem dX9_take_47 : decode cX9_take 47 = .ok (.iload 5, 2) := by decide +kernel
theorem dX9_take_49 : decode cX9_take 49 = .ok (.ifCond .eq 11, 3) := by decide +kernel
theorem dX9_take_52 : decode cX9_take 52 = .ok (.aload_n 0, 1) := by decide +kernel
theorem dX9_take_53 : decode cX9_take 53 = .ok (.iload_n 3, 1) := by decide +kernel
theorem dX9_take_54 : decode cX9_take 54 = .ok (.invokevirtual 109, 3) := by decide +kernel
theorem dX9_take_57 : decode cX9_take 57 = .ok (.goto 4, 3) := by decide +kernel
theorem dX9_take_60 : decode cX9_take 60 = .ok (.iconst 0, 1) := by decide +kernel
theorem dX9_take_61 : decode cX9_take 61 = .ok (.iadd, 1) := by decide +kernel
theorem dX9_take_62 : decode cX9_take 62 = .ok (.istore_n 2, 1) := by decide +kernel
theorem dX9_take_63 : decode cX9_take 63 = .ok (.iconst 0, 1) := by decide +kernel
theorem dX9_take_64 : decode cX9_take 64 = .ok (.istore 6, 2) := by decide +kernel
theorem dX9_take_66 : decode cX9_take 66 = .ok (.iload 6, 2) := by decide +kernel
theorem dX9_take_68 : decode cX9_take 68 = .ok (.iconst 5, 1) := by decide +kernel
theorem dX9_take_69 : decode cX9_take 69 = .ok (.if_icmp .ge 40, 3) := by decide +kernel
theorem dX9_take_72 : decode cX9_take 72 = .ok (.aload_n 0, 1) := by decide +kernel
theorem dX9_take_73 : decode cX9_take 73 = .ok (.getfield 22, 3) := by decide +kernel
theorem dX9_take_76 : decode cX9_take 76 = .ok (.iload 4, 2) := by decide +kernel
theorem dX9_take_78 : decode cX9_take 78 = .ok (.iload 6, 2) := by decide +kernel
theorem dX9_take_80 : decode cX9_take 80 = .ok (.iadd, 1) := by decide +kernel
theorem dX9_take_81 : decode cX9_take 81 = .ok (.iload 5, 2) := by decide +kernel
theorem dX9_take_83 : decode cX9_take 83 = .ok (.ifCond .eq 18, 3) := by decide +kernel
theorem dX9_take_86 : decode cX9_take 86 = .ok (.aload_n 0, 1) := by decide +kernel
theorem dX9_take_87 : decode cX9_take 87 = .ok (.getfield 7, 3) := by decide +kernel
theorem dX9_take_90 : decode cX9_take 90 = .ok (.iload_n 3, 1) := by decide +kernel
theorem dX9_take_91 : decode cX9_take 91 = .ok (.invokestatic 103, 3) := by decide +kernel
theorem dX9_take_94 : decode cX9_take 94 = .ok (.iload 6, 2) := by decide +kernel
theorem dX9_take_96 : decode cX9_take 96 = .ok (.iadd, 1) := by decide +kernel
theorem dX9_take_97 : decode cX9_take 97 = .ok (.iaload, 1) := by decide +kernel
theorem dX9_take_98 : decode cX9_take 98 = .ok (.goto 4, 3) := by decide +kernel
theorem dX9_take_101 : decode cX9_take 101 = .ok (.iconst 0, 1) := by decide +kernel
theorem dX9_take_102 : decode cX9_take 102 = .ok (.iastore, 1) := by decide +kernel
theorem dX9_take_103 : decode cX9_take 103 = .ok (.iinc 6 1, 3) := by decide +kernel
theorem dX9_take_106 : decode cX9_take 106 = .ok (.goto (-40), 3) := by decide +kernel
theorem dX9_take_109 : decode cX9_take 109 = .ok (.iconst 0, 1) := by decide +kernel
theorem dX9_take_110 : decode cX9_take 110 = .ok (.istore 6, 2) := by decide +kernel
theorem dX9_take_112 : decode cX9_take 112 = .ok (.iload 6, 2) := by decide +kernel
theorem dX9_take_114 : decode cX9_take 114 = .ok (.bipush 8, 2) := by decide +kernel
theorem dX9_take_116 : decode cX9_take 116 = .ok (.if_icmp .ge 37, 3) := by decide +kernel
theorem dX9_take_119 : decode cX9_take 119 = .ok (.aload_n 0, 1) := by decide +kernel
theorem dX9_take_120 : decode cX9_take 120 = .ok (.getfield 22, 3) := by decide +kernel
theorem dX9_take_123 : decode cX9_take 123 = .ok (.iload 4, 2) := by decide +kernel
theorem dX9_take_125 : decode cX9_take 125 = .ok (.iconst 5, 1) := by decide +kernel
theorem dX9_take_126 : decode cX9_take 126 = .ok (.iadd, 1) := by decide +kernel
theorem dX9_take_127 : decode cX9_take 127 = .ok (.iload 6, 2) := by decide +kernel
theorem dX9_take_129 : decode cX9_take 129 = .ok (.iadd, 1) := by decide +kernel
theorem dX9_take_130 : decode cX9_take 130 = .ok (.iload 5, 2) := by decide +kernel
theorem dX9_take_132 : decode cX9_take 132 = .ok (.ifCond .eq 13, 3) := by decide +kernel
theorem dX9_take_135 : decode cX9_take 135 = .ok (.aload_n 0, 1) := by decide +kernel
theorem dX9_take_136 : decode cX9_take 136 = .ok (.iload_n 3, 1) := by decide +kernel
theorem dX9_take_137 : decode cX9_take 137 = .ok (.iload 6, 2) := by decide +kernel
theorem dX9_take_139 : decode cX9_take 139 = .ok (.invokevirtual 322, 3) := by decide +kernel
theorem dX9_take_142 : decode cX9_take 142 = .ok (.goto 4, 3) := by decide +kernel
theorem dX9_take_145 : decode cX9_take 145 = .ok (.iconst 0, 1) := by decide +kernel
theorem dX9_take_146 : decode cX9_take 146 = .ok (.iastore, 1) := by decide +kernel
theorem dX9_take_147 : decode cX9_take 147 = .ok (.iinc 6 1, 3) := by decide +kernel
theorem dX9_take_150 : decode cX9_take 150 = .ok (.goto (-38), 3) := by decide +kernel
theorem dX9_take_153 : decode cX9_take 153 = .ok (.iinc 3 1, 3) := by decide +kernel
theorem dX9_take_156 : decode cX9_take 156 = .ok (.goto (-135), 3) := by decide +kernel
theorem dX9_take_159 : decode cX9_take 159 = .ok (.aload_n 0, 1) := by decide +kernel
theorem dX9_take_160 : decode cX9_take 160 = .ok (.getfield 25, 3) := by decide +kernel
theorem dX9_take_163 : decode cX9_take 163 = .ok (.iload_n 1, 1) := by decide +kernel
theorem dX9_take_164 : decode cX9_take 164 = .ok (.iconst 1, 1) := by decide +kernel
theorem dX9_take_165 : decode cX9_take 165 = .ok (.iastore, 1) := by decide +kernel
theorem dX9_take_166 : decode cX9_take 166 = .ok (.aload_n 0, 1) := by decide +kernel
theorem dX9_take_167 : decode cX9_take 167 = .ok (.getfield 28, 3) := by decide +kernel
theorem dX9_take_170 : decode cX9_take 170 = .ok (.iload_n 1, 1) := by decide +kernel
theorem dX9_take_171 : decode cX9_take 171 = .ok (.iload_n 2, 1) := by decide +kernel
theorem dX9_take_172 : decode cX9_take 172 = .ok (.iastore, 1) := by decide +kernel
theorem dX9_take_173 : decode cX9_take 173 = .ok (.aload_n 0, 1) := by decide +kernel
theorem dX9_take_174 : decode cX9_take 174 = .ok (.invokevirtual 112, 3) := by decide +kernel
theorem dX9_take_177 : decode cX9_take 177 = .ok (.ireturn, 1) := by decide +kernel
theorem dX9_inPicture_0 : decode cX9_inPicture 0 = .ok (.iconst 0, 1) := by decide +kernel
theorem dX9_inPicture_1 : decode cX9_inPicture 1 = .ok (.istore_n 3, 1) := by decide +kernel
theorem dX9_inPicture_2 : decode cX9_inPicture 2 = .ok (.iload_n 3, 1) := by decide +kernel
theorem dX9_inPicture_3 : decode cX9_inPicture 3 = .ok (.bipush 40, 2) := by decide +kernel
theorem dX9_inPicture_5 : decode cX9_inPicture 5 = .ok (.if_icmp .ge 39, 3) := by decide +kernel
theorem dX9_inPicture_8 : decode cX9_inPicture 8 = .ok (.aload_n 0, 1) := by decide +kernel
theorem dX9_inPicture_9 : decode cX9_inPicture 9 = .ok (.getfield 22, 3) := by decide +kernel
theorem dX9_inPicture_12 : decode cX9_inPicture 12 = .ok (.sipush 520, 3) := by decide +kernel
theorem dX9_inPicture_15 : decode cX9_inPicture 15 = .ok (.iload_n 1, 1) := by decide +kernel
theorem dX9_inPicture_16 : decode cX9_inPicture 16 = .ok (.imul, 1) := by decide +kernel
theorem dX9_inPicture_17 : decode cX9_inPicture 17 = .ok (.bipush 13, 2) := by decide +kernel
theorem dX9_inPicture_19 : decode cX9_inPicture 19 = .ok (.iload_n 3, 1) := by decide +kernel
theorem dX9_inPicture_20 : decode cX9_inPicture 20 = .ok (.imul, 1) := by decide +kernel
theorem dX9_inPicture_21 : decode cX9_inPicture 21 = .ok (.iadd, 1) := by decide +kernel
theorem dX9_inPicture_22 : decode cX9_inPicture 22 = .ok (.iaload, 1) := by decide +kernel
theorem dX9_inPicture_23 : decode cX9_inPicture 23 = .ok (.iload_n 2, 1) := by decide +kernel
theorem dX9_inPicture_24 : decode cX9_inPicture 24 = .ok (.if_icmp .ne 14, 3) := by decide +kernel
theorem dX9_inPicture_27 : decode cX9_inPicture 27 = .ok (.sipush 520, 3) := by decide +kernel
theorem dX9_inPicture_30 : decode cX9_inPicture 30 = .ok (.iload_n 1, 1) := by decide +kernel
theorem dX9_inPicture_31 : decode cX9_inPicture 31 = .ok (.imul, 1) := by decide +kernel
theorem dX9_inPicture_32 : decode cX9_inPicture 32 = .ok (.bipush 13, 2) := by decide +kernel
theorem dX9_inPicture_34 : decode cX9_inPicture 34 = .ok (.iload_n 3, 1) := by decide +kernel
theorem dX9_inPicture_35 : decode cX9_inPicture 35 = .ok (.imul, 1) := by decide +kernel
theorem dX9_inPicture_36 : decode cX9_inPicture 36 = .ok (.iadd, 1) := by decide +kernel
theorem dX9_inPicture_37 : decode cX9_inPicture 37 = .ok (.ireturn, 1) := by decide +kernel
theorem dX9_inPicture_38 : decode cX9_inPicture 38 = .ok (.iinc 3 1, 3) := by decide +kernel
theorem dX9_inPicture_41 : decode cX9_inPicture 41 = .ok (.goto (-39), 3) := by decide +kernel
theorem dX9_inPicture_44 : decode cX9_inPicture 44 = .ok (.iconst (-1), 1) := by decide +kernel
theorem dX9_inPicture_45 : decode cX9_inPicture 45 = .ok (.ireturn, 1) := by decide +kernel
theorem dX9_hasChanged_0 : decode cX9_hasChanged 0 = .ok (.aload_n 0, 1) := by decide +kernel
theorem dX9_hasChanged_1 : decode cX9_hasChanged 1 = .ok (.getfield 7, 3) := by decide +kernel
theorem dX9_hasChanged_4 : decode cX9_hasChanged 4 = .ok (.iload_n 1, 1) := by decide +kernel
theorem dX9_hasChanged_5 : decode cX9_hasChanged 5 = .ok (.invokestatic 103, 3) := by decide +kernel
theorem dX9_hasChanged_8 : decode cX9_hasChanged 8 = .ok (.iconst 4, 1) := by decide +kernel
theorem dX9_hasChanged_9 : decode cX9_hasChanged 9 = .ok (.iadd, 1) := by decide +kernel
theorem dX9_hasChanged_10 : decode cX9_hasChanged 10 = .ok (.iaload, 1) := by decide +kernel
theorem dX9_hasChanged_11 : decode cX9_hasChanged 11 = .ok (.aload_n 0, 1) := by decide +kernel
theorem dX9_hasChanged_12 : decode cX9_hasChanged 12 = .ok (.getfield 22, 3) := by decide +kernel
theorem dX9_hasChanged_15 : decode cX9_hasChanged 15 = .ok (.iload_n 2, 1) := by decide +kernel
theorem dX9_hasChanged_16 : decode cX9_hasChanged 16 = .ok (.iconst 4, 1) := by decide +kernel
theorem dX9_hasChanged_17 : decode cX9_hasChanged 17 = .ok (.iadd, 1) := by decide +kernel
theorem dX9_hasChanged_18 : decode cX9_hasChanged 18 = .ok (.iaload, 1) := by decide +kernel
theorem dX9_hasChanged_19 : decode cX9_hasChanged 19 = .ok (.if_icmp .ne 25, 3) := by decide +kernel
theorem dX9_hasChanged_22 : decode cX9_hasChanged 22 = .ok (.aload_n 0, 1) := by decide +kernel
theorem dX9_hasChanged_23 : decode cX9_hasChanged 23 = .ok (.getfield 7, 3) := by decide +kernel
theorem dX9_hasChanged_26 : decode cX9_hasChanged 26 = .ok (.iload_n 1, 1) := by decide +kernel
theorem dX9_hasChanged_27 : decode cX9_hasChanged 27 = .ok (.invokestatic 103, 3) := by decide +kernel
theorem dX9_hasChanged_30 : decode cX9_hasChanged 30 = .ok (.iconst 2, 1) := by decide +kernel
theorem dX9_hasChanged_31 : decode cX9_hasChanged 31 = .ok (.iadd, 1) := by decide +kernel
theorem dX9_hasChanged_32 : decode cX9_hasChanged 32 = .ok (.iaload, 1) := by decide +kernel
theorem dX9_hasChanged_33 : decode cX9_hasChanged 33 = .ok (.aload_n 0, 1) := by decide +kernel
theorem dX9_hasChanged_34 : decode cX9_hasChanged 34 = .ok (.getfield 22, 3) := by decide +kernel
theorem dX9_hasChanged_37 : decode cX9_hasChanged 37 = .ok (.iload_n 2, 1) := by decide +kernel
theorem dX9_hasChanged_38 : decode cX9_hasChanged 38 = .ok (.iconst 2, 1) := by decide +kernel
theorem dX9_hasChanged_39 : decode cX9_hasChanged 39 = .ok (.iadd, 1) := by decide +kernel
theorem dX9_hasChanged_40 : decode cX9_hasChanged 40 = .ok (.iaload, 1) := by decide +kernel
theorem dX9_hasChanged_41 : decode cX9_hasChanged 41 = .ok (.if_icmp .eq 7, 3) := by decide +kernel
theorem dX9_hasChanged_44 : decode cX9_hasChanged 44 = .ok (.iconst 1, 1) := by decide +kernel
theorem dX9_hasChanged_45 : decode cX9_hasChanged 45 = .ok (.goto 4, 3) := by decide +kernel
theorem dX9_hasChanged_48 : decode cX9_hasChanged 48 = .ok (.iconst 0, 1) := by decide +kernel
theorem dX9_hasChanged_49 : decode cX9_hasChanged 49 = .ok (.istore_n 3, 1) := by decide +kernel
theorem dX9_hasChanged_50 : decode cX9_hasChanged 50 = .ok (.iconst 0, 1) := by decide +kernel
theorem dX9_hasChanged_51 : decode cX9_hasChanged 51 = .ok (.istore 4, 2) := by decide +kernel
theorem dX9_hasChanged_53 : decode cX9_hasChanged 53 = .ok (.iload 4, 2) := by decide +kernel
theorem dX9_hasChanged_55 : decode cX9_hasChanged 55 = .ok (.aload_n 0, 1) := by decide +kernel
theorem dX9_hasChanged_56 : decode cX9_hasChanged 56 = .ok (.getfield 7, 3) := by decide +kernel
theorem dX9_hasChanged_59 : decode cX9_hasChanged 59 = .ok (.iload_n 1, 1) := by decide +kernel
theorem dX9_hasChanged_60 : decode cX9_hasChanged 60 = .ok (.invokestatic 103, 3) := by decide +kernel
theorem dX9_hasChanged_63 : decode cX9_hasChanged 63 = .ok (.iconst 2, 1) := by decide +kernel
theorem dX9_hasChanged_64 : decode cX9_hasChanged 64 = .ok (.iadd, 1) := by decide +kernel
theorem dX9_hasChanged_65 : decode cX9_hasChanged 65 = .ok (.iaload, 1) := by decide +kernel
theorem dX9_hasChanged_66 : decode cX9_hasChanged 66 = .ok (.if_icmp .ge 40, 3) := by decide +kernel
theorem dX9_hasChanged_69 : decode cX9_hasChanged 69 = .ok (.iload_n 3, 1) := by decide +kernel
theorem dX9_hasChanged_70 : decode cX9_hasChanged 70 = .ok (.ifCond .ne 36, 3) := by decide +kernel
theorem dX9_hasChanged_73 : decode cX9_hasChanged 73 = .ok (.aload_n 0, 1) := by decide +kernel
theorem dX9_hasChanged_74 : decode cX9_hasChanged 74 = .ok (.iload_n 1, 1) := by decide +kernel
theorem dX9_hasChanged_75 : decode cX9_hasChanged 75 = .ok (.iload 4, 2) := by decide +kernel
theorem dX9_hasChanged_77 : decode cX9_hasChanged 77 = .ok (.invokevirtual 322, 3) := by decide +kernel
theorem dX9_hasChanged_80 : decode cX9_hasChanged 80 = .ok (.aload_n 0, 1) := by decide +kernel
theorem dX9_hasChanged_81 : decode cX9_hasChanged 81 = .ok (.getfield 22, 3) := by decide +kernel
theorem dX9_hasChanged_84 : decode cX9_hasChanged 84 = .ok (.iload_n 2, 1) := by decide +kernel
theorem dX9_hasChanged_85 : decode cX9_hasChanged 85 = .ok (.iconst 5, 1) := by decide +kernel
theorem dX9_hasChanged_86 : decode cX9_hasChanged 86 = .ok (.iadd, 1) := by decide +kernel
theorem dX9_hasChanged_87 : decode cX9_hasChanged 87 = .ok (.iload 4, 2) := by decide +kernel
theorem dX9_hasChanged_89 : decode cX9_hasChanged 89 = .ok (.iadd, 1) := by decide +kernel
theorem dX9_hasChanged_90 : decode cX9_hasChanged 90 = .ok (.iaload, 1) := by decide +kernel
theorem dX9_hasChanged_91 : decode cX9_hasChanged 91 = .ok (.if_icmp .eq 7, 3) := by decide +kernel
theorem dX9_hasChanged_94 : decode cX9_hasChanged 94 = .ok (.iconst 1, 1) := by decide +kernel
theorem dX9_hasChanged_95 : decode cX9_hasChanged 95 = .ok (.goto 4, 3) := by decide +kernel
theorem dX9_hasChanged_98 : decode cX9_hasChanged 98 = .ok (.iconst 0, 1) := by decide +kernel
theorem dX9_hasChanged_99 : decode cX9_hasChanged 99 = .ok (.istore_n 3, 1) := by decide +kernel
theorem dX9_hasChanged_100 : decode cX9_hasChanged 100 = .ok (.iinc 4 1, 3) := by decide +kernel
theorem dX9_hasChanged_103 : decode cX9_hasChanged 103 = .ok (.goto (-50), 3) := by decide +kernel
theorem dX9_hasChanged_106 : decode cX9_hasChanged 106 = .ok (.iload_n 3, 1) := by decide +kernel
theorem dX9_hasChanged_107 : decode cX9_hasChanged 107 = .ok (.ireturn, 1) := by decide +kernel
theorem dX9_compare_0 : decode cX9_compare 0 = .ok (.aload_n 0, 1) := by decide +kernel
theorem dX9_compare_1 : decode cX9_compare 1 = .ok (.iload_n 1, 1) := by decide +kernel
theorem dX9_compare_2 : decode cX9_compare 2 = .ok (.invokestatic 319, 3) := by decide +kernel
theorem dX9_compare_5 : decode cX9_compare 5 = .ok (.ifCond .ne 7, 3) := by decide +kernel
theorem dX9_compare_8 : decode cX9_compare 8 = .ok (.iconst 1, 1) := by decide +kernel
theorem dX9_compare_9 : decode cX9_compare 9 = .ok (.goto 30, 3) := by decide +kernel
theorem dX9_compare_12 : decode cX9_compare 12 = .ok (.iload_n 2, 1) := by decide +kernel
theorem dX9_compare_13 : decode cX9_compare 13 = .ok (.iconst 0, 1) := by decide +kernel
theorem dX9_compare_14 : decode cX9_compare 14 = .ok (.iconst 3, 1) := by decide +kernel
theorem dX9_compare_15 : decode cX9_compare 15 = .ok (.invokestatic 78, 3) := by decide +kernel
theorem dX9_compare_18 : decode cX9_compare 18 = .ok (.ifCond .ne 7, 3) := by decide +kernel
theorem dX9_compare_21 : decode cX9_compare 21 = .ok (.iconst 2, 1) := by decide +kernel
theorem dX9_compare_22 : decode cX9_compare 22 = .ok (.goto 17, 3) := by decide +kernel
theorem dX9_compare_25 : decode cX9_compare 25 = .ok (.aload_n 0, 1) := by decide +kernel
theorem dX9_compare_26 : decode cX9_compare 26 = .ok (.getfield 25, 3) := by decide +kernel
theorem dX9_compare_29 : decode cX9_compare 29 = .ok (.iload_n 1, 1) := by decide +kernel
theorem dX9_compare_30 : decode cX9_compare 30 = .ok (.iaload, 1) := by decide +kernel
theorem dX9_compare_31 : decode cX9_compare 31 = .ok (.ifCond .ne 7, 3) := by decide +kernel
theorem dX9_compare_34 : decode cX9_compare 34 = .ok (.iconst 3, 1) := by decide +kernel
theorem dX9_compare_35 : decode cX9_compare 35 = .ok (.goto 4, 3) := by decide +kernel
theorem dX9_compare_38 : decode cX9_compare 38 = .ok (.iconst 0, 1) := by decide +kernel
theorem dX9_compare_39 : decode cX9_compare 39 = .ok (.invokevirtual 74, 3) := by decide +kernel
theorem dX9_compare_42 : decode cX9_compare 42 = .ok (.ifCond .eq 5, 3) := by decide +kernel
theorem dX9_compare_45 : decode cX9_compare 45 = .ok (.iconst 0, 1) := by decide +kernel
theorem dX9_compare_46 : decode cX9_compare 46 = .ok (.ireturn, 1) := by decide +kernel
theorem dX9_compare_47 : decode cX9_compare 47 = .ok (.iconst 0, 1) := by decide +kernel
theorem dX9_compare_48 : decode cX9_compare 48 = .ok (.istore_n 3, 1) := by decide +kernel
theorem dX9_compare_49 : decode cX9_compare 49 = .ok (.iconst 0, 1) := by decide +kernel
theorem dX9_compare_50 : decode cX9_compare 50 = .ok (.istore 4, 2) := by decide +kernel
theorem dX9_compare_52 : decode cX9_compare 52 = .ok (.iconst 0, 1) := by decide +kernel
theorem dX9_compare_53 : decode cX9_compare 53 = .ok (.istore 5, 2) := by decide +kernel
theorem dX9_compare_55 : decode cX9_compare 55 = .ok (.iconst 0, 1) := by decide +kernel
theorem dX9_compare_56 : decode cX9_compare 56 = .ok (.istore 6, 2) := by decide +kernel
theorem dX9_compare_58 : decode cX9_compare 58 = .ok (.iconst 0, 1) := by decide +kernel
theorem dX9_compare_59 : decode cX9_compare 59 = .ok (.istore 7, 2) := by decide +kernel
theorem dX9_compare_61 : decode cX9_compare 61 = .ok (.iconst 0, 1) := by decide +kernel
theorem dX9_compare_62 : decode cX9_compare 62 = .ok (.istore 8, 2) := by decide +kernel
theorem dX9_compare_64 : decode cX9_compare 64 = .ok (.iload 8, 2) := by decide +kernel
theorem dX9_compare_66 : decode cX9_compare 66 = .ok (.bipush 40, 2) := by decide +kernel
theorem dX9_compare_68 : decode cX9_compare 68 = .ok (.if_icmp .ge 134, 3) := by decide +kernel
theorem dX9_compare_71 : decode cX9_compare 71 = .ok (.iload 7, 2) := by decide +kernel
theorem dX9_compare_73 : decode cX9_compare 73 = .ok (.aload_n 0, 1) := by decide +kernel
theorem dX9_compare_74 : decode cX9_compare 74 = .ok (.getfield 22, 3) := by decide +kernel
theorem dX9_compare_77 : decode cX9_compare 77 = .ok (.sipush 520, 3) := by decide +kernel
theorem dX9_compare_80 : decode cX9_compare 80 = .ok (.iload_n 1, 1) := by decide +kernel
theorem dX9_compare_81 : decode cX9_compare 81 = .ok (.imul, 1) := by decide +kernel
theorem dX9_compare_82 : decode cX9_compare 82 = .ok (.bipush 13, 2) := by decide +kernel
theorem dX9_compare_84 : decode cX9_compare 84 = .ok (.iload 8, 2) := by decide +kernel
theorem dX9_compare_86 : decode cX9_compare 86 = .ok (.imul, 1) := by decide +kernel
theorem dX9_compare_87 : decode cX9_compare 87 = .ok (.iadd, 1) := by decide +kernel
theorem dX9_compare_88 : decode cX9_compare 88 = .ok (.iaload, 1) := by decide +kernel
theorem dX9_compare_89 : decode cX9_compare 89 = .ok (.ifCond .eq 7, 3) := by decide +kernel
theorem dX9_compare_92 : decode cX9_compare 92 = .ok (.iconst 1, 1) := by decide +kernel
theorem dX9_compare_93 : decode cX9_compare 93 = .ok (.goto 4, 3) := by decide +kernel
theorem dX9_compare_96 : decode cX9_compare 96 = .ok (.iconst 0, 1) := by decide +kernel
theorem dX9_compare_97 : decode cX9_compare 97 = .ok (.iadd, 1) := by decide +kernel
theorem dX9_compare_98 : decode cX9_compare 98 = .ok (.istore 7, 2) := by decide +kernel
theorem dX9_compare_100 : decode cX9_compare 100 = .ok (.aload_n 0, 1) := by decide +kernel
theorem dX9_compare_101 : decode cX9_compare 101 = .ok (.iload 8, 2) := by decide +kernel
theorem dX9_compare_103 : decode cX9_compare 103 = .ok (.invokevirtual 106, 3) := by decide +kernel
theorem dX9_compare_106 : decode cX9_compare 106 = .ok (.ifCond .eq 90, 3) := by decide +kernel
theorem dX9_compare_109 : decode cX9_compare 109 = .ok (.aload_n 0, 1) := by decide +kernel
theorem dX9_compare_110 : decode cX9_compare 110 = .ok (.iload_n 1, 1) := by decide +kernel
theorem dX9_compare_111 : decode cX9_compare 111 = .ok (.aload_n 0, 1) := by decide +kernel
theorem dX9_compare_112 : decode cX9_compare 112 = .ok (.getfield 7, 3) := by decide +kernel
theorem dX9_compare_115 : decode cX9_compare 115 = .ok (.iload 8, 2) := by decide +kernel
theorem dX9_compare_117 : decode cX9_compare 117 = .ok (.invokestatic 103, 3) := by decide +kernel
theorem dX9_compare_120 : decode cX9_compare 120 = .ok (.iconst 0, 1) := by decide +kernel
theorem dX9_compare_121 : decode cX9_compare 121 = .ok (.iadd, 1) := by decide +kernel
theorem dX9_compare_122 : decode cX9_compare 122 = .ok (.iaload, 1) := by decide +kernel
theorem dX9_compare_123 : decode cX9_compare 123 = .ok (.invokevirtual 325, 3) := by decide +kernel
theorem dX9_compare_126 : decode cX9_compare 126 = .ok (.istore 9, 2) := by decide +kernel
theorem dX9_compare_128 : decode cX9_compare 128 = .ok (.iload_n 3, 1) := by decide +kernel
theorem dX9_compare_129 : decode cX9_compare 129 = .ok (.iload 9, 2) := by decide +kernel
theorem dX9_compare_131 : decode cX9_compare 131 = .ok (.iconst (-1), 1) := by decide +kernel
theorem dX9_compare_132 : decode cX9_compare 132 = .ok (.if_icmp .ne 7, 3) := by decide +kernel
theorem dX9_compare_135 : decode cX9_compare 135 = .ok (.iconst 1, 1) := by decide +kernel
theorem dX9_compare_136 : decode cX9_compare 136 = .ok (.goto 4, 3) := by decide +kernel
theorem dX9_compare_139 : decode cX9_compare 139 = .ok (.iconst 0, 1) := by decide +kernel
theorem dX9_compare_140 : decode cX9_compare 140 = .ok (.iadd, 1) := by decide +kernel
theorem dX9_compare_141 : decode cX9_compare 141 = .ok (.istore_n 3, 1) := by decide +kernel
theorem dX9_compare_142 : decode cX9_compare 142 = .ok (.iload 4, 2) := by decide +kernel
theorem dX9_compare_144 : decode cX9_compare 144 = .ok (.iload 9, 2) := by decide +kernel
theorem dX9_compare_146 : decode cX9_compare 146 = .ok (.iconst (-1), 1) := by decide +kernel
theorem dX9_compare_147 : decode cX9_compare 147 = .ok (.if_icmp .ne 7, 3) := by decide +kernel
theorem dX9_compare_150 : decode cX9_compare 150 = .ok (.iconst 0, 1) := by decide +kernel
theorem dX9_compare_151 : decode cX9_compare 151 = .ok (.goto 4, 3) := by decide +kernel
theorem dX9_compare_154 : decode cX9_compare 154 = .ok (.iconst 1, 1) := by decide +kernel
theorem dX9_compare_155 : decode cX9_compare 155 = .ok (.iadd, 1) := by decide +kernel
theorem dX9_compare_156 : decode cX9_compare 156 = .ok (.istore 4, 2) := by decide +kernel
theorem dX9_compare_158 : decode cX9_compare 158 = .ok (.iload 5, 2) := by decide +kernel
theorem dX9_compare_160 : decode cX9_compare 160 = .ok (.iload 9, 2) := by decide +kernel
theorem dX9_compare_162 : decode cX9_compare 162 = .ok (.iconst (-1), 1) := by decide +kernel
theorem dX9_compare_163 : decode cX9_compare 163 = .ok (.if_icmp .eq 18, 3) := by decide +kernel
theorem dX9_compare_166 : decode cX9_compare 166 = .ok (.aload_n 0, 1) := by decide +kernel
theorem dX9_compare_167 : decode cX9_compare 167 = .ok (.iload 8, 2) := by decide +kernel
theorem dX9_compare_169 : decode cX9_compare 169 = .ok (.iload 9, 2) := by decide +kernel
theorem dX9_compare_171 : decode cX9_compare 171 = .ok (.invokevirtual 328, 3) := by decide +kernel
theorem dX9_compare_174 : decode cX9_compare 174 = .ok (.ifCond .eq 7, 3) := by decide +kernel
theorem dX9_compare_177 : decode cX9_compare 177 = .ok (.iconst 1, 1) := by decide +kernel
theorem dX9_compare_178 : decode cX9_compare 178 = .ok (.goto 4, 3) := by decide +kernel
theorem dX9_compare_181 : decode cX9_compare 181 = .ok (.iconst 0, 1) := by decide +kernel
theorem dX9_compare_182 : decode cX9_compare 182 = .ok (.iadd, 1) := by decide +kernel
theorem dX9_compare_183 : decode cX9_compare 183 = .ok (.istore 5, 2) := by decide +kernel
theorem dX9_compare_185 : decode cX9_compare 185 = .ok (.iload 6, 2) := by decide +kernel
theorem dX9_compare_187 : decode cX9_compare 187 = .ok (.aload_n 0, 1) := by decide +kernel
theorem dX9_compare_188 : decode cX9_compare 188 = .ok (.iload 8, 2) := by decide +kernel
theorem dX9_compare_190 : decode cX9_compare 190 = .ok (.invokevirtual 109, 3) := by decide +kernel
theorem dX9_compare_193 : decode cX9_compare 193 = .ok (.iadd, 1) := by decide +kernel
theorem dX9_compare_194 : decode cX9_compare 194 = .ok (.istore 6, 2) := by decide +kernel
theorem dX9_compare_196 : decode cX9_compare 196 = .ok (.iinc 8 1, 3) := by decide +kernel
theorem dX9_compare_199 : decode cX9_compare 199 = .ok (.goto (-135), 3) := by decide +kernel
theorem dX9_compare_202 : decode cX9_compare 202 = .ok (.iload_n 2, 1) := by decide +kernel
theorem dX9_compare_203 : decode cX9_compare 203 = .ok (.ifCond .ne 7, 3) := by decide +kernel
theorem dX9_compare_206 : decode cX9_compare 206 = .ok (.iload_n 3, 1) := by decide +kernel
theorem dX9_compare_207 : decode cX9_compare 207 = .ok (.goto 35, 3) := by decide +kernel
theorem dX9_compare_210 : decode cX9_compare 210 = .ok (.iload_n 2, 1) := by decide +kernel
theorem dX9_compare_211 : decode cX9_compare 211 = .ok (.iconst 1, 1) := by decide +kernel
theorem dX9_compare_212 : decode cX9_compare 212 = .ok (.if_icmp .ne 11, 3) := by decide +kernel
theorem dX9_compare_215 : decode cX9_compare 215 = .ok (.iload 7, 2) := by decide +kernel
theorem dX9_compare_217 : decode cX9_compare 217 = .ok (.iload 4, 2) := by decide +kernel
theorem dX9_compare_219 : decode cX9_compare 219 = .ok (.isub, 1) := by decide +kernel
theorem dX9_compare_220 : decode cX9_compare 220 = .ok (.goto 22, 3) := by decide +kernel
theorem dX9_compare_223 : decode cX9_compare 223 = .ok (.iload_n 2, 1) := by decide +kernel
theorem dX9_compare_224 : decode cX9_compare 224 = .ok (.iconst 2, 1) := by decide +kernel
theorem dX9_compare_225 : decode cX9_compare 225 = .ok (.if_icmp .ne 8, 3) := by decide +kernel
theorem dX9_compare_228 : decode cX9_compare 228 = .ok (.iload 5, 2) := by decide +kernel
theorem dX9_compare_230 : decode cX9_compare 230 = .ok (.goto 12, 3) := by decide +kernel
theorem dX9_compare_233 : decode cX9_compare 233 = .ok (.iload 6, 2) := by decide +kernel
theorem dX9_compare_235 : decode cX9_compare 235 = .ok (.aload_n 0, 1) := by decide +kernel
theorem dX9_compare_236 : decode cX9_compare 236 = .ok (.getfield 28, 3) := by decide +kernel
theorem dX9_compare_239 : decode cX9_compare 239 = .ok (.iload_n 1, 1) := by decide +kernel
theorem dX9_compare_240 : decode cX9_compare 240 = .ok (.iaload, 1) := by decide +kernel
theorem dX9_compare_241 : decode cX9_compare 241 = .ok (.isub, 1) := by decide +kernel
theorem dX9_compare_242 : decode cX9_compare 242 = .ok (.ireturn, 1) := by decide +kernel
theorem dX9_growth_0 : decode cX9_growth 0 = .ok (.aload_n 0, 1) := by decide +kernel
theorem dX9_growth_1 : decode cX9_growth 1 = .ok (.iload_n 1, 1) := by decide +kernel
theorem dX9_growth_2 : decode cX9_growth 2 = .ok (.invokestatic 319, 3) := by decide +kernel
theorem dX9_growth_5 : decode cX9_growth 5 = .ok (.ifCond .eq 13, 3) := by decide +kernel
theorem dX9_growth_8 : decode cX9_growth 8 = .ok (.iload_n 2, 1) := by decide +kernel
theorem dX9_growth_9 : decode cX9_growth 9 = .ok (.iconst 0, 1) := by decide +kernel
theorem dX9_growth_10 : decode cX9_growth 10 = .ok (.bipush 11, 2) := by decide +kernel
theorem dX9_growth_12 : decode cX9_growth 12 = .ok (.invokestatic 78, 3) := by decide +kernel
theorem dX9_growth_15 : decode cX9_growth 15 = .ok (.ifCond .ne 7, 3) := by decide +kernel
theorem dX9_growth_18 : decode cX9_growth 18 = .ok (.iconst 1, 1) := by decide +kernel
theorem dX9_growth_19 : decode cX9_growth 19 = .ok (.goto 17, 3) := by decide +kernel
theorem dX9_growth_22 : decode cX9_growth 22 = .ok (.aload_n 0, 1) := by decide +kernel
theorem dX9_growth_23 : decode cX9_growth 23 = .ok (.getfield 25, 3) := by decide +kernel
theorem dX9_growth_26 : decode cX9_growth 26 = .ok (.iload_n 1, 1) := by decide +kernel
theorem dX9_growth_27 : decode cX9_growth 27 = .ok (.iaload, 1) := by decide +kernel
theorem dX9_growth_28 : decode cX9_growth 28 = .ok (.ifCond .ne 7, 3) := by decide +kernel
theorem dX9_growth_31 : decode cX9_growth 31 = .ok (.iconst 2, 1) := by decide +kernel
theorem dX9_growth_32 : decode cX9_growth 32 = .ok (.goto 4, 3) := by decide +kernel
theorem dX9_growth_35 : decode cX9_growth 35 = .ok (.iconst 0, 1) := by decide +kernel
theorem dX9_growth_36 : decode cX9_growth 36 = .ok (.invokevirtual 74, 3) := by decide +kernel
theorem dX9_growth_39 : decode cX9_growth 39 = .ok (.ifCond .eq 5, 3) := by decide +kernel
theorem dX9_growth_42 : decode cX9_growth 42 = .ok (.iconst 0, 1) := by decide +kernel
theorem dX9_growth_43 : decode cX9_growth 43 = .ok (.ireturn, 1) := by decide +kernel
theorem dX9_growth_44 : decode cX9_growth 44 = .ok (.iconst 0, 1) := by decide +kernel
theorem dX9_growth_45 : decode cX9_growth 45 = .ok (.istore_n 3, 1) := by decide +kernel
theorem dX9_growth_46 : decode cX9_growth 46 = .ok (.iconst 0, 1) := by decide +kernel
theorem dX9_growth_47 : decode cX9_growth 47 = .ok (.istore 4, 2) := by decide +kernel
theorem dX9_growth_49 : decode cX9_growth 49 = .ok (.iload 4, 2) := by decide +kernel
theorem dX9_growth_51 : decode cX9_growth 51 = .ok (.bipush 40, 2) := by decide +kernel
theorem dX9_growth_53 : decode cX9_growth 53 = .ok (.if_icmp .ge 91, 3) := by decide +kernel
theorem dX9_growth_56 : decode cX9_growth 56 = .ok (.iload_n 3, 1) := by decide +kernel
theorem dX9_growth_57 : decode cX9_growth 57 = .ok (.aload_n 0, 1) := by decide +kernel
theorem dX9_growth_58 : decode cX9_growth 58 = .ok (.iload 4, 2) := by decide +kernel
theorem dX9_growth_60 : decode cX9_growth 60 = .ok (.invokevirtual 106, 3) := by decide +kernel
theorem dX9_growth_63 : decode cX9_growth 63 = .ok (.ifCond .eq 23, 3) := by decide +kernel
theorem dX9_growth_66 : decode cX9_growth 66 = .ok (.aload_n 0, 1) := by decide +kernel
theorem dX9_growth_67 : decode cX9_growth 67 = .ok (.getfield 7, 3) := by decide +kernel
theorem dX9_growth_70 : decode cX9_growth 70 = .ok (.iload 4, 2) := by decide +kernel
theorem dX9_growth_72 : decode cX9_growth 72 = .ok (.invokestatic 103, 3) := by decide +kernel
theorem dX9_growth_75 : decode cX9_growth 75 = .ok (.iconst 1, 1) := by decide +kernel
theorem dX9_growth_76 : decode cX9_growth 76 = .ok (.iadd, 1) := by decide +kernel
theorem dX9_growth_77 : decode cX9_growth 77 = .ok (.iaload, 1) := by decide +kernel
theorem dX9_growth_78 : decode cX9_growth 78 = .ok (.iload_n 2, 1) := by decide +kernel
theorem dX9_growth_79 : decode cX9_growth 79 = .ok (.if_icmp .ne 7, 3) := by decide +kernel
theorem dX9_growth_82 : decode cX9_growth 82 = .ok (.iconst 1, 1) := by decide +kernel
theorem dX9_growth_83 : decode cX9_growth 83 = .ok (.goto 4, 3) := by decide +kernel
theorem dX9_growth_86 : decode cX9_growth 86 = .ok (.iconst 0, 1) := by decide +kernel
theorem dX9_growth_87 : decode cX9_growth 87 = .ok (.iadd, 1) := by decide +kernel
theorem dX9_growth_88 : decode cX9_growth 88 = .ok (.istore_n 3, 1) := by decide +kernel
theorem dX9_growth_89 : decode cX9_growth 89 = .ok (.iload_n 3, 1) := by decide +kernel
theorem dX9_growth_90 : decode cX9_growth 90 = .ok (.aload_n 0, 1) := by decide +kernel
theorem dX9_growth_91 : decode cX9_growth 91 = .ok (.getfield 22, 3) := by decide +kernel
theorem dX9_growth_94 : decode cX9_growth 94 = .ok (.sipush 520, 3) := by decide +kernel
theorem dX9_growth_97 : decode cX9_growth 97 = .ok (.iload_n 1, 1) := by decide +kernel
theorem dX9_growth_98 : decode cX9_growth 98 = .ok (.imul, 1) := by decide +kernel
theorem dX9_growth_99 : decode cX9_growth 99 = .ok (.bipush 13, 2) := by decide +kernel
theorem dX9_growth_101 : decode cX9_growth 101 = .ok (.iload 4, 2) := by decide +kernel
theorem dX9_growth_103 : decode cX9_growth 103 = .ok (.imul, 1) := by decide +kernel
theorem dX9_growth_104 : decode cX9_growth 104 = .ok (.iadd, 1) := by decide +kernel
theorem dX9_growth_105 : decode cX9_growth 105 = .ok (.iaload, 1) := by decide +kernel
theorem dX9_growth_106 : decode cX9_growth 106 = .ok (.ifCond .eq 29, 3) := by decide +kernel
theorem dX9_growth_109 : decode cX9_growth 109 = .ok (.aload_n 0, 1) := by decide +kernel
theorem dX9_growth_110 : decode cX9_growth 110 = .ok (.getfield 22, 3) := by decide +kernel
theorem dX9_growth_113 : decode cX9_growth 113 = .ok (.sipush 520, 3) := by decide +kernel
theorem dX9_growth_116 : decode cX9_growth 116 = .ok (.iload_n 1, 1) := by decide +kernel
theorem dX9_growth_117 : decode cX9_growth 117 = .ok (.imul, 1) := by decide +kernel
theorem dX9_growth_118 : decode cX9_growth 118 = .ok (.bipush 13, 2) := by decide +kernel
theorem dX9_growth_120 : decode cX9_growth 120 = .ok (.iload 4, 2) := by decide +kernel
theorem dX9_growth_122 : decode cX9_growth 122 = .ok (.imul, 1) := by decide +kernel
theorem dX9_growth_123 : decode cX9_growth 123 = .ok (.iadd, 1) := by decide +kernel
theorem dX9_growth_124 : decode cX9_growth 124 = .ok (.iconst 1, 1) := by decide +kernel
theorem dX9_growth_125 : decode cX9_growth 125 = .ok (.iadd, 1) := by decide +kernel
theorem dX9_growth_126 : decode cX9_growth 126 = .ok (.iaload, 1) := by decide +kernel
theorem dX9_growth_127 : decode cX9_growth 127 = .ok (.iload_n 2, 1) := by decide +kernel
theorem dX9_growth_128 : decode cX9_growth 128 = .ok (.if_icmp .ne 7, 3) := by decide +kernel
theorem dX9_growth_131 : decode cX9_growth 131 = .ok (.iconst 1, 1) := by decide +kernel
theorem dX9_growth_132 : decode cX9_growth 132 = .ok (.goto 4, 3) := by decide +kernel
theorem dX9_growth_135 : decode cX9_growth 135 = .ok (.iconst 0, 1) := by decide +kernel
theorem dX9_growth_136 : decode cX9_growth 136 = .ok (.isub, 1) := by decide +kernel
theorem dX9_growth_137 : decode cX9_growth 137 = .ok (.istore_n 3, 1) := by decide +kernel
theorem dX9_growth_138 : decode cX9_growth 138 = .ok (.iinc 4 1, 3) := by decide +kernel
theorem dX9_growth_141 : decode cX9_growth 141 = .ok (.goto (-92), 3) := by decide +kernel
theorem dX9_growth_144 : decode cX9_growth 144 = .ok (.iload_n 3, 1) := by decide +kernel
theorem dX9_growth_145 : decode cX9_growth 145 = .ok (.ireturn, 1) := by decide +kernel
theorem dX9_mix_0 : decode cX9_mix 0 = .ok (.aload_n 0, 1) := by decide +kernel
theorem dX9_mix_1 : decode cX9_mix 1 = .ok (.ldc2_w 331, 3) := by decide +kernel
theorem dX9_mix_4 : decode cX9_mix 4 = .ok (.aload_n 0, 1) := by decide +kernel
theorem dX9_mix_5 : decode cX9_mix 5 = .ok (.getfield 333, 3) := by decide +kernel
theorem dX9_mix_8 : decode cX9_mix 8 = .ok (.lmul, 1) := by decide +kernel
theorem dX9_mix_9 : decode cX9_mix 9 = .ok (.lload_n 1, 1) := by decide +kernel
theorem dX9_mix_10 : decode cX9_mix 10 = .ok (.ladd, 1) := by decide +kernel
theorem dX9_mix_11 : decode cX9_mix 11 = .ok (.putfield 333, 3) := by decide +kernel
theorem dX9_mix_14 : decode cX9_mix 14 = .ok (.return_, 1) := by decide +kernel
theorem dX9_digest_0 : decode cX9_digest 0 = .ok (.aload_n 0, 1) := by decide +kernel
theorem dX9_digest_1 : decode cX9_digest 1 = .ok (.iconst 0, 1) := by decide +kernel
theorem dX9_digest_2 : decode cX9_digest 2 = .ok (.putfield 63, 3) := by decide +kernel
theorem dX9_digest_5 : decode cX9_digest 5 = .ok (.aload_n 0, 1) := by decide +kernel
theorem dX9_digest_6 : decode cX9_digest 6 = .ok (.invokevirtual 198, 3) := by decide +kernel
theorem dX9_digest_9 : decode cX9_digest 9 = .ok (.aload_n 0, 1) := by decide +kernel
theorem dX9_digest_10 : decode cX9_digest 10 = .ok (.invokevirtual 191, 3) := by decide +kernel
theorem dX9_digest_13 : decode cX9_digest 13 = .ok (.aload_n 0, 1) := by decide +kernel
theorem dX9_digest_14 : decode cX9_digest 14 = .ok (.invokevirtual 214, 3) := by decide +kernel
theorem dX9_digest_17 : decode cX9_digest 17 = .ok (.aload_n 0, 1) := by decide +kernel
theorem dX9_digest_18 : decode cX9_digest 18 = .ok (.ldc2_w 336, 3) := by decide +kernel
theorem dX9_digest_21 : decode cX9_digest 21 = .ok (.putfield 333, 3) := by decide +kernel
theorem dX9_digest_24 : decode cX9_digest 24 = .ok (.aload_n 0, 1) := by decide +kernel
theorem dX9_digest_25 : decode cX9_digest 25 = .ok (.aload_n 0, 1) := by decide +kernel
theorem dX9_digest_26 : decode cX9_digest 26 = .ok (.getfield 7, 3) := by decide +kernel
theorem dX9_digest_29 : decode cX9_digest 29 = .ok (.iconst 0, 1) := by decide +kernel
theorem dX9_digest_30 : decode cX9_digest 30 = .ok (.iaload, 1) := by decide +kernel
theorem dX9_digest_31 : decode cX9_digest 31 = .ok (.i2l, 1) := by decide +kernel
theorem dX9_digest_32 : decode cX9_digest 32 = .ok (.invokevirtual 338, 3) := by decide +kernel
theorem dX9_digest_35 : decode cX9_digest 35 = .ok (.iconst 0, 1) := by decide +kernel
theorem dX9_digest_36 : decode cX9_digest 36 = .ok (.istore_n 1, 1) := by decide +kernel
theorem dX9_digest_37 : decode cX9_digest 37 = .ok (.iload_n 1, 1) := by decide +kernel
theorem dX9_digest_38 : decode cX9_digest 38 = .ok (.aload_n 0, 1) := by decide +kernel
theorem dX9_digest_39 : decode cX9_digest 39 = .ok (.getfield 7, 3) := by decide +kernel
theorem dX9_digest_42 : decode cX9_digest 42 = .ok (.iconst 0, 1) := by decide +kernel
theorem dX9_digest_43 : decode cX9_digest 43 = .ok (.iaload, 1) := by decide +kernel
theorem dX9_digest_44 : decode cX9_digest 44 = .ok (.if_icmp .ge 42, 3) := by decide +kernel
theorem dX9_digest_47 : decode cX9_digest 47 = .ok (.aload_n 0, 1) := by decide +kernel
theorem dX9_digest_48 : decode cX9_digest 48 = .ok (.aload_n 0, 1) := by decide +kernel
theorem dX9_digest_49 : decode cX9_digest 49 = .ok (.iload_n 1, 1) := by decide +kernel
theorem dX9_digest_50 : decode cX9_digest 50 = .ok (.iconst 0, 1) := by decide +kernel
theorem dX9_digest_51 : decode cX9_digest 51 = .ok (.invokevirtual 95, 3) := by decide +kernel
theorem dX9_digest_54 : decode cX9_digest 54 = .ok (.i2l, 1) := by decide +kernel
theorem dX9_digest_55 : decode cX9_digest 55 = .ok (.invokevirtual 338, 3) := by decide +kernel
theorem dX9_digest_58 : decode cX9_digest 58 = .ok (.aload_n 0, 1) := by decide +kernel
theorem dX9_digest_59 : decode cX9_digest 59 = .ok (.aload_n 0, 1) := by decide +kernel
theorem dX9_digest_60 : decode cX9_digest 60 = .ok (.iload_n 1, 1) := by decide +kernel
theorem dX9_digest_61 : decode cX9_digest 61 = .ok (.iconst 1, 1) := by decide +kernel
theorem dX9_digest_62 : decode cX9_digest 62 = .ok (.invokevirtual 95, 3) := by decide +kernel
theorem dX9_digest_65 : decode cX9_digest 65 = .ok (.i2l, 1) := by decide +kernel
theorem dX9_digest_66 : decode cX9_digest 66 = .ok (.invokevirtual 338, 3) := by decide +kernel
theorem dX9_digest_69 : decode cX9_digest 69 = .ok (.aload_n 0, 1) := by decide +kernel
theorem dX9_digest_70 : decode cX9_digest 70 = .ok (.aload_n 0, 1) := by decide +kernel
theorem dX9_digest_71 : decode cX9_digest 71 = .ok (.iload_n 1, 1) := by decide +kernel
theorem dX9_digest_72 : decode cX9_digest 72 = .ok (.iconst 2, 1) := by decide +kernel
theorem dX9_digest_73 : decode cX9_digest 73 = .ok (.invokevirtual 95, 3) := by decide +kernel
theorem dX9_digest_76 : decode cX9_digest 76 = .ok (.i2l, 1) := by decide +kernel
theorem dX9_digest_77 : decode cX9_digest 77 = .ok (.invokevirtual 338, 3) := by decide +kernel
theorem dX9_digest_80 : decode cX9_digest 80 = .ok (.iinc 1 1, 3) := by decide +kernel
theorem dX9_digest_83 : decode cX9_digest 83 = .ok (.goto (-46), 3) := by decide +kernel
theorem dX9_digest_86 : decode cX9_digest 86 = .ok (.iconst 0, 1) := by decide +kernel
theorem dX9_digest_87 : decode cX9_digest 87 = .ok (.istore_n 1, 1) := by decide +kernel
theorem dX9_digest_88 : decode cX9_digest 88 = .ok (.iload_n 1, 1) := by decide +kernel
theorem dX9_digest_89 : decode cX9_digest 89 = .ok (.bipush 40, 2) := by decide +kernel
theorem dX9_digest_91 : decode cX9_digest 91 = .ok (.if_icmp .ge 133, 3) := by decide +kernel
theorem dX9_digest_94 : decode cX9_digest 94 = .ok (.aload_n 0, 1) := by decide +kernel
theorem dX9_digest_95 : decode cX9_digest 95 = .ok (.iload_n 1, 1) := by decide +kernel
theorem dX9_digest_96 : decode cX9_digest 96 = .ok (.invokevirtual 106, 3) := by decide +kernel
theorem dX9_digest_99 : decode cX9_digest 99 = .ok (.ifCond .eq 119, 3) := by decide +kernel
theorem dX9_digest_102 : decode cX9_digest 102 = .ok (.aload_n 0, 1) := by decide +kernel
theorem dX9_digest_103 : decode cX9_digest 103 = .ok (.iload_n 1, 1) := by decide +kernel
theorem dX9_digest_104 : decode cX9_digest 104 = .ok (.i2l, 1) := by decide +kernel
theorem dX9_digest_105 : decode cX9_digest 105 = .ok (.invokevirtual 338, 3) := by decide +kernel
theorem dX9_digest_108 : decode cX9_digest 108 = .ok (.iconst 0, 1) := by decide +kernel
theorem dX9_digest_109 : decode cX9_digest 109 = .ok (.istore_n 2, 1) := by decide +kernel
theorem dX9_digest_110 : decode cX9_digest 110 = .ok (.iload_n 2, 1) := by decide +kernel
theorem dX9_digest_111 : decode cX9_digest 111 = .ok (.bipush 6, 2) := by decide +kernel
theorem dX9_digest_113 : decode cX9_digest 113 = .ok (.if_icmp .ge 20, 3) := by decide +kernel
theorem dX9_digest_116 : decode cX9_digest 116 = .ok (.aload_n 0, 1) := by decide +kernel
theorem dX9_digest_117 : decode cX9_digest 117 = .ok (.aload_n 0, 1) := by decide +kernel
theorem dX9_digest_118 : decode cX9_digest 118 = .ok (.iload_n 1, 1) := by decide +kernel
theorem dX9_digest_119 : decode cX9_digest 119 = .ok (.iload_n 2, 1) := by decide +kernel
theorem dX9_digest_120 : decode cX9_digest 120 = .ok (.invokevirtual 151, 3) := by decide +kernel
theorem dX9_digest_123 : decode cX9_digest 123 = .ok (.i2l, 1) := by decide +kernel
theorem dX9_digest_124 : decode cX9_digest 124 = .ok (.invokevirtual 338, 3) := by decide +kernel
theorem dX9_digest_127 : decode cX9_digest 127 = .ok (.iinc 2 1, 3) := by decide +kernel
theorem dX9_digest_130 : decode cX9_digest 130 = .ok (.goto (-20), 3) := by decide +kernel
theorem dX9_digest_133 : decode cX9_digest 133 = .ok (.iconst 0, 1) := by decide +kernel
theorem dX9_digest_134 : decode cX9_digest 134 = .ok (.istore_n 2, 1) := by decide +kernel
theorem dX9_digest_135 : decode cX9_digest 135 = .ok (.iload_n 2, 1) := by decide +kernel
theorem dX9_digest_136 : decode cX9_digest 136 = .ok (.aload_n 0, 1) := by decide +kernel
theorem dX9_digest_137 : decode cX9_digest 137 = .ok (.getfield 7, 3) := by decide +kernel
theorem dX9_digest_140 : decode cX9_digest 140 = .ok (.iload_n 1, 1) := by decide +kernel
theorem dX9_digest_141 : decode cX9_digest 141 = .ok (.invokestatic 103, 3) := by decide +kernel
theorem dX9_digest_144 : decode cX9_digest 144 = .ok (.iconst 2, 1) := by decide +kernel
theorem dX9_digest_145 : decode cX9_digest 145 = .ok (.iadd, 1) := by decide +kernel
theorem dX9_digest_146 : decode cX9_digest 146 = .ok (.iaload, 1) := by decide +kernel
theorem dX9_digest_147 : decode cX9_digest 147 = .ok (.if_icmp .ge 27, 3) := by decide +kernel
theorem dX9_digest_150 : decode cX9_digest 150 = .ok (.aload_n 0, 1) := by decide +kernel
theorem dX9_digest_151 : decode cX9_digest 151 = .ok (.aload_n 0, 1) := by decide +kernel
theorem dX9_digest_152 : decode cX9_digest 152 = .ok (.getfield 7, 3) := by decide +kernel
theorem dX9_digest_155 : decode cX9_digest 155 = .ok (.iload_n 1, 1) := by decide +kernel
theorem dX9_digest_156 : decode cX9_digest 156 = .ok (.invokestatic 103, 3) := by decide +kernel
theorem dX9_digest_159 : decode cX9_digest 159 = .ok (.iconst 5, 1) := by decide +kernel
theorem dX9_digest_160 : decode cX9_digest 160 = .ok (.iadd, 1) := by decide +kernel
theorem dX9_digest_161 : decode cX9_digest 161 = .ok (.iload_n 2, 1) := by decide +kernel
theorem dX9_digest_162 : decode cX9_digest 162 = .ok (.iadd, 1) := by decide +kernel
theorem dX9_digest_163 : decode cX9_digest 163 = .ok (.iaload, 1) := by decide +kernel
theorem dX9_digest_164 : decode cX9_digest 164 = .ok (.i2l, 1) := by decide +kernel
theorem dX9_digest_165 : decode cX9_digest 165 = .ok (.invokevirtual 338, 3) := by decide +kernel
theorem dX9_digest_168 : decode cX9_digest 168 = .ok (.iinc 2 1, 3) := by decide +kernel
theorem dX9_digest_171 : decode cX9_digest 171 = .ok (.goto (-36), 3) := by decide +kernel
theorem dX9_digest_174 : decode cX9_digest 174 = .ok (.aload_n 0, 1) := by decide +kernel
theorem dX9_digest_175 : decode cX9_digest 175 = .ok (.aload_n 0, 1) := by decide +kernel
theorem dX9_digest_176 : decode cX9_digest 176 = .ok (.getfield 35, 3) := by decide +kernel
theorem dX9_digest_179 : decode cX9_digest 179 = .ok (.iload_n 1, 1) := by decide +kernel
theorem dX9_digest_180 : decode cX9_digest 180 = .ok (.iaload, 1) := by decide +kernel
theorem dX9_digest_181 : decode cX9_digest 181 = .ok (.i2l, 1) := by decide +kernel
theorem dX9_digest_182 : decode cX9_digest 182 = .ok (.invokevirtual 338, 3) := by decide +kernel
theorem dX9_digest_185 : decode cX9_digest 185 = .ok (.aload_n 0, 1) := by decide +kernel
theorem dX9_digest_186 : decode cX9_digest 186 = .ok (.aload_n 0, 1) := by decide +kernel
theorem dX9_digest_187 : decode cX9_digest 187 = .ok (.iload_n 1, 1) := by decide +kernel
theorem dX9_digest_188 : decode cX9_digest 188 = .ok (.invokevirtual 201, 3) := by decide +kernel
theorem dX9_digest_191 : decode cX9_digest 191 = .ok (.i2l, 1) := by decide +kernel
theorem dX9_digest_192 : decode cX9_digest 192 = .ok (.invokevirtual 338, 3) := by decide +kernel
theorem dX9_digest_195 : decode cX9_digest 195 = .ok (.aload_n 0, 1) := by decide +kernel
theorem dX9_digest_196 : decode cX9_digest 196 = .ok (.aload_n 0, 1) := by decide +kernel
theorem dX9_digest_197 : decode cX9_digest 197 = .ok (.iload_n 1, 1) := by decide +kernel
theorem dX9_digest_198 : decode cX9_digest 198 = .ok (.invokevirtual 208, 3) := by decide +kernel
theorem dX9_digest_201 : decode cX9_digest 201 = .ok (.i2l, 1) := by decide +kernel
theorem dX9_digest_202 : decode cX9_digest 202 = .ok (.invokevirtual 338, 3) := by decide +kernel
theorem dX9_digest_205 : decode cX9_digest 205 = .ok (.aload_n 0, 1) := by decide +kernel
theorem dX9_digest_206 : decode cX9_digest 206 = .ok (.aload_n 0, 1) := by decide +kernel
theorem dX9_digest_207 : decode cX9_digest 207 = .ok (.iload_n 1, 1) := by decide +kernel
theorem dX9_digest_208 : decode cX9_digest 208 = .ok (.invokevirtual 217, 3) := by decide +kernel
theorem dX9_digest_211 : decode cX9_digest 211 = .ok (.invokestatic 194, 3) := by decide +kernel
theorem dX9_digest_214 : decode cX9_digest 214 = .ok (.i2l, 1) := by decide +kernel
theorem dX9_digest_215 : decode cX9_digest 215 = .ok (.invokevirtual 338, 3) := by decide +kernel
theorem dX9_digest_218 : decode cX9_digest 218 = .ok (.iinc 1 1, 3) := by decide +kernel
theorem dX9_digest_221 : decode cX9_digest 221 = .ok (.goto (-133), 3) := by decide +kernel
theorem dX9_digest_224 : decode cX9_digest 224 = .ok (.aload_n 0, 1) := by decide +kernel
theorem dX9_digest_225 : decode cX9_digest 225 = .ok (.aload_n 0, 1) := by decide +kernel
theorem dX9_digest_226 : decode cX9_digest 226 = .ok (.getfield 248, 3) := by decide +kernel
theorem dX9_digest_229 : decode cX9_digest 229 = .ok (.i2l, 1) := by decide +kernel
theorem dX9_digest_230 : decode cX9_digest 230 = .ok (.invokevirtual 338, 3) := by decide +kernel
theorem dX9_digest_233 : decode cX9_digest 233 = .ok (.aload_n 0, 1) := by decide +kernel
theorem dX9_digest_234 : decode cX9_digest 234 = .ok (.aload_n 0, 1) := by decide +kernel
theorem dX9_digest_235 : decode cX9_digest 235 = .ok (.getfield 67, 3) := by decide +kernel
theorem dX9_digest_238 : decode cX9_digest 238 = .ok (.i2l, 1) := by decide +kernel
theorem dX9_digest_239 : decode cX9_digest 239 = .ok (.invokevirtual 338, 3) := by decide +kernel
theorem dX9_digest_242 : decode cX9_digest 242 = .ok (.aload_n 0, 1) := by decide +kernel
theorem dX9_digest_243 : decode cX9_digest 243 = .ok (.getfield 333, 3) := by decide +kernel
theorem dX9_digest_246 : decode cX9_digest 246 = .ok (.lreturn, 1) := by decide +kernel
theorem lpX9_isNumber_301 : hb_lkP yX9_isNumber 301 9 27 := ⟨RX9, TX9, 29, rfl, by decide, rfl, Or.inl ⟨rfl, Or.inl (hb_w 1351 (by decide +kernel) (by decide +kernel))⟩⟩
theorem lpX9_isNumber_264 : hb_lkP yX9_isNumber 264 9 22 := ⟨RX9, TX9, 29, rfl, by decide, rfl, Or.inl ⟨rfl, Or.inl (hb_w 1346 (by decide +kernel) (by decide +kernel))⟩⟩
theorem lkX9_301 : hb_lkF RX9 301 9 27 := ⟨RX9, TX9, 29, rfl, by decide, rfl, Or.inl (hb_w 1351 (by decide +kernel) (by decide +kernel))⟩
theorem lkX9_304 : hb_lkF RX9 304 9 26 := ⟨RX9, TX9, 29, rfl, by decide, rfl, Or.inl (hb_w 1350 (by decide +kernel) (by decide +kernel))⟩
theorem lpX9_command_304 : hb_lkP yX9_command 304 9 26 := ⟨RX9, TX9, 29, rfl, by decide, rfl, Or.inl ⟨rfl, Or.inl (hb_w 1350 (by decide +kernel) (by decide +kernel))⟩⟩
theorem lpX9_command_264 : hb_lkP yX9_command 264 9 22 := ⟨RX9, TX9, 29, rfl, by decide, rfl, Or.inl ⟨rfl, Or.inl (hb_w 1346 (by decide +kernel) (by decide +kernel))⟩⟩
theorem lmX9_307 : Cond.methodLink RX9 307 yX9_isNumber ∈ hb_wl := hb_w 1836 (by decide +kernel) (by decide +kernel)
theorem lkX9_60 : hb_lkF RX9 60 9 25 := ⟨RX9, TX9, 29, rfl, by decide, rfl, Or.inl (hb_w 1349 (by decide +kernel) (by decide +kernel))⟩
theorem lmX9_310 : Cond.methodLink RX9 310 yX9_command ∈ hb_wl := hb_w 1832 (by decide +kernel) (by decide +kernel)
theorem lpX9_laysCommands_304 : hb_lkP yX9_laysCommands 304 9 26 := ⟨RX9, TX9, 29, rfl, by decide, rfl, Or.inl ⟨rfl, Or.inl (hb_w 1350 (by decide +kernel) (by decide +kernel))⟩⟩
theorem lkX9_16 : hb_lkF RX9 16 9 2 := ⟨RX9, TX9, 29, rfl, by decide, rfl, Or.inl (hb_w 1326 (by decide +kernel) (by decide +kernel))⟩
theorem lmX9_316 : Cond.methodLink RX9 316 yX9_does ∈ hb_wl := hb_w 1840 (by decide +kernel) (by decide +kernel)
theorem lpX9_execute_63 : hb_lkP yX9_execute 63 9 4 := ⟨RX9, TX9, 29, rfl, by decide, rfl, Or.inl ⟨rfl, Or.inl (hb_w 1328 (by decide +kernel) (by decide +kernel))⟩⟩
theorem lmX9_313 : Cond.methodLink RX9 313 yX9_laysCommands ∈ hb_wl := hb_w 1828 (by decide +kernel) (by decide +kernel)
theorem lkX9_22 : hb_lkF RX9 22 9 7 := ⟨RX9, TX9, 29, rfl, by decide, rfl, Or.inl (hb_w 1331 (by decide +kernel) (by decide +kernel))⟩
theorem lmX9_322 : Cond.methodLink RX9 322 yX9_serialIn ∈ hb_wl := hb_w 1851 (by decide +kernel) (by decide +kernel)
theorem lkX9_25 : hb_lkF RX9 25 9 8 := ⟨RX9, TX9, 29, rfl, by decide, rfl, Or.inl (hb_w 1332 (by decide +kernel) (by decide +kernel))⟩
theorem lkX9_28 : hb_lkF RX9 28 9 9 := ⟨RX9, TX9, 29, rfl, by decide, rfl, Or.inl (hb_w 1333 (by decide +kernel) (by decide +kernel))⟩
theorem lmX9_319 : Cond.methodLink RX9 319 yX9_isPicture ∈ hb_wl := hb_w 1848 (by decide +kernel) (by decide +kernel)
theorem lmX9_328 : Cond.methodLink RX9 328 yX9_hasChanged ∈ hb_wl := hb_w 1863 (by decide +kernel) (by decide +kernel)
theorem lmX9_325 : Cond.methodLink RX9 325 yX9_inPicture ∈ hb_wl := hb_w 1859 (by decide +kernel) (by decide +kernel)
theorem wd_1880 : (Jvm.Cond.constantLong "HeapBrowserModel" (331 : Nat) (31 : Int64)) ∈ hb_wl := hb_w 1880 (by decide +kernel) (by decide +kernel)
theorem lkX9_333 : hb_lkF RX9 333 9 28 := ⟨RX9, TX9, 29, rfl, by decide, rfl, Or.inl (hb_w 1352 (by decide +kernel) (by decide +kernel))⟩
theorem lpX9_mix_333 : hb_lkP yX9_mix 333 9 28 := ⟨RX9, TX9, 29, rfl, by decide, rfl, Or.inl ⟨rfl, Or.inl (hb_w 1352 (by decide +kernel) (by decide +kernel))⟩⟩
theorem lmX9_338 : Cond.methodLink RX9 338 yX9_mix ∈ hb_wl := hb_w 1876 (by decide +kernel) (by decide +kernel)
theorem lpX9_digest_63 : hb_lkP yX9_digest 63 9 4 := ⟨RX9, TX9, 29, rfl, by decide, rfl, Or.inl ⟨rfl, Or.inl (hb_w 1328 (by decide +kernel) (by decide +kernel))⟩⟩
theorem wd_1875 : (Jvm.Cond.constantLong "HeapBrowserModel" (336 : Nat) (1759 : Int64)) ∈ hb_wl := hb_w 1875 (by decide +kernel) (by decide +kernel)
theorem lpX9_digest_333 : hb_lkP yX9_digest 333 9 28 := ⟨RX9, TX9, 29, rfl, by decide, rfl, Or.inl ⟨rfl, Or.inl (hb_w 1352 (by decide +kernel) (by decide +kernel))⟩⟩
