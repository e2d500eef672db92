theorem dX9_collects_0 : decode cX9_collects 0 = .ok (.aload_n 0, 1) := by decide +kernel
theorem dX9_collects_1 : decode cX9_collects 1 = .ok (.lconst 0, 1) := by decide +kernel
theorem dX9_collects_2 : decode cX9_collects 2 = .ok (.iconst (-1), 1) := by decide +kernel
theorem dX9_collects_3 : decode cX9_collects 3 = .ok (.iconst (-1), 1) := by decide +kernel
theorem dX9_collects_4 : decode cX9_collects 4 = .ok (.iconst (-1), 1) := by decide +kernel
theorem dX9_collects_5 : decode cX9_collects 5 = .ok (.invokevirtual 138, 3) := by decide +kernel
theorem dX9_collects_8 : decode cX9_collects 8 = .ok (.lstore_n 1, 1) := by decide +kernel
theorem dX9_collects_9 : decode cX9_collects 9 = .ok (.iconst 0, 1) := by decide +kernel
theorem dX9_collects_10 : decode cX9_collects 10 = .ok (.istore_n 3, 1) := by decide +kernel
theorem dX9_collects_11 : decode cX9_collects 11 = .ok (.iconst 0, 1) := by decide +kernel
theorem dX9_collects_12 : decode cX9_collects 12 = .ok (.istore 4, 2) := by decide +kernel
theorem dX9_collects_14 : decode cX9_collects 14 = .ok (.iload 4, 2) := by decide +kernel
theorem dX9_collects_16 : decode cX9_collects 16 = .ok (.bipush 40, 2) := by decide +kernel
theorem dX9_collects_18 : decode cX9_collects 18 = .ok (.if_icmp .ge 38, 3) := by decide +kernel
theorem dX9_collects_21 : decode cX9_collects 21 = .ok (.aload_n 0, 1) := by decide +kernel
theorem dX9_collects_22 : decode cX9_collects 22 = .ok (.iload 4, 2) := by decide +kernel
theorem dX9_collects_24 : decode cX9_collects 24 = .ok (.invokevirtual 106, 3) := by decide +kernel
theorem dX9_collects_27 : decode cX9_collects 27 = .ok (.ifCond .eq 23, 3) := by decide +kernel
theorem dX9_collects_30 : decode cX9_collects 30 = .ok (.lload_n 1, 1) := by decide +kernel
theorem dX9_collects_31 : decode cX9_collects 31 = .ok (.iload 4, 2) := by decide +kernel
theorem dX9_collects_33 : decode cX9_collects 33 = .ok (.lshr, 1) := by decide +kernel
theorem dX9_collects_34 : decode cX9_collects 34 = .ok (.lconst 1, 1) := by decide +kernel
theorem dX9_collects_35 : decode cX9_collects 35 = .ok (.land, 1) := by decide +kernel
theorem dX9_collects_36 : decode cX9_collects 36 = .ok (.lconst 0, 1) := by decide +kernel
theorem dX9_collects_37 : decode cX9_collects 37 = .ok (.lcmp, 1) := by decide +kernel
theorem dX9_collects_38 : decode cX9_collects 38 = .ok (.ifCond .ne 12, 3) := by decide +kernel
theorem dX9_collects_41 : decode cX9_collects 41 = .ok (.iload_n 3, 1) := by decide +kernel
theorem dX9_collects_42 : decode cX9_collects 42 = .ok (.aload_n 0, 1) := by decide +kernel
theorem dX9_collects_43 : decode cX9_collects 43 = .ok (.iload 4, 2) := by decide +kernel
theorem dX9_collects_45 : decode cX9_collects 45 = .ok (.invokevirtual 109, 3) := by decide +kernel
theorem dX9_collects_48 : decode cX9_collects 48 = .ok (.iadd, 1) := by decide +kernel
theorem dX9_collects_49 : decode cX9_collects 49 = .ok (.istore_n 3, 1) := by decide +kernel
theorem dX9_collects_50 : decode cX9_collects 50 = .ok (.iinc 4 1, 3) := by decide +kernel
theorem dX9_collects_53 : decode cX9_collects 53 = .ok (.goto (-39), 3) := by decide +kernel
theorem dX9_collects_56 : decode cX9_collects 56 = .ok (.iconst 0, 1) := by decide +kernel
theorem dX9_collects_57 : decode cX9_collects 57 = .ok (.istore 4, 2) := by decide +kernel
theorem dX9_collects_59 : decode cX9_collects 59 = .ok (.iload 4, 2) := by decide +kernel
theorem dX9_collects_61 : decode cX9_collects 61 = .ok (.bipush 40, 2) := by decide +kernel
theorem dX9_collects_63 : decode cX9_collects 63 = .ok (.if_icmp .ge 33, 3) := by decide +kernel
theorem dX9_collects_66 : decode cX9_collects 66 = .ok (.lload_n 1, 1) := by decide +kernel
theorem dX9_collects_67 : decode cX9_collects 67 = .ok (.iload 4, 2) := by decide +kernel
theorem dX9_collects_69 : decode cX9_collects 69 = .ok (.lshr, 1) := by decide +kernel
theorem dX9_collects_70 : decode cX9_collects 70 = .ok (.lconst 1, 1) := by decide +kernel
theorem dX9_collects_71 : decode cX9_collects 71 = .ok (.land, 1) := by decide +kernel
theorem dX9_collects_72 : decode cX9_collects 72 = .ok (.lconst 0, 1) := by decide +kernel
theorem dX9_collects_73 : decode cX9_collects 73 = .ok (.lcmp, 1) := by decide +kernel
theorem dX9_collects_74 : decode cX9_collects 74 = .ok (.ifCond .ne 16, 3) := by decide +kernel
theorem dX9_collects_77 : decode cX9_collects 77 = .ok (.aload_n 0, 1) := by decide +kernel
theorem dX9_collects_78 : decode cX9_collects 78 = .ok (.getfield 7, 3) := by decide +kernel
theorem dX9_collects_81 : decode cX9_collects 81 = .ok (.iload 4, 2) := by decide +kernel
theorem dX9_collects_83 : decode cX9_collects 83 = .ok (.invokestatic 103, 3) := by decide +kernel
theorem dX9_collects_86 : decode cX9_collects 86 = .ok (.iconst 0, 1) := by decide +kernel
theorem dX9_collects_87 : decode cX9_collects 87 = .ok (.iadd, 1) := by decide +kernel
theorem dX9_collects_88 : decode cX9_collects 88 = .ok (.iconst 0, 1) := by decide +kernel
theorem dX9_collects_89 : decode cX9_collects 89 = .ok (.iastore, 1) := by decide +kernel
theorem dX9_collects_90 : decode cX9_collects 90 = .ok (.iinc 4 1, 3) := by decide +kernel
theorem dX9_collects_93 : decode cX9_collects 93 = .ok (.goto (-34), 3) := by decide +kernel
theorem dX9_collects_96 : decode cX9_collects 96 = .ok (.iconst 0, 1) := by decide +kernel
theorem dX9_collects_97 : decode cX9_collects 97 = .ok (.istore 4, 2) := by decide +kernel
theorem dX9_collects_99 : decode cX9_collects 99 = .ok (.iload 4, 2) := by decide +kernel
theorem dX9_collects_101 : decode cX9_collects 101 = .ok (.bipush 40, 2) := by decide +kernel
theorem dX9_collects_103 : decode cX9_collects 103 = .ok (.if_icmp .ge 114, 3) := by decide +kernel
theorem dX9_collects_106 : decode cX9_collects 106 = .ok (.aload_n 0, 1) := by decide +kernel
theorem dX9_collects_107 : decode cX9_collects 107 = .ok (.iload 4, 2) := by decide +kernel
theorem dX9_collects_109 : decode cX9_collects 109 = .ok (.invokevirtual 106, 3) := by decide +kernel
theorem dX9_collects_112 : decode cX9_collects 112 = .ok (.ifCond .eq 99, 3) := by decide +kernel
theorem dX9_collects_115 : decode cX9_collects 115 = .ok (.aload_n 0, 1) := by decide +kernel
theorem dX9_collects_116 : decode cX9_collects 116 = .ok (.getfield 7, 3) := by decide +kernel
theorem dX9_collects_119 : decode cX9_collects 119 = .ok (.iload 4, 2) := by decide +kernel
theorem dX9_collects_121 : decode cX9_collects 121 = .ok (.invokestatic 103, 3) := by decide +kernel
theorem dX9_collects_124 : decode cX9_collects 124 = .ok (.iconst 5, 1) := by decide +kernel
theorem dX9_collects_125 : decode cX9_collects 125 = .ok (.iadd, 1) := by decide +kernel
theorem dX9_collects_126 : decode cX9_collects 126 = .ok (.iaload, 1) := by decide +kernel
theorem dX9_collects_127 : decode cX9_collects 127 = .ok (.istore 5, 2) := by decide +kernel
theorem dX9_collects_129 : decode cX9_collects 129 = .ok (.aload_n 0, 1) := by decide +kernel
theorem dX9_collects_130 : decode cX9_collects 130 = .ok (.getfield 7, 3) := by decide +kernel
theorem dX9_collects_133 : decode cX9_collects 133 = .ok (.iload 4, 2) := by decide +kernel
theorem dX9_collects_135 : decode cX9_collects 135 = .ok (.invokestatic 103, 3) := by decide +kernel
theorem dX9_collects_138 : decode cX9_collects 138 = .ok (.iconst 1, 1) := by decide +kernel
theorem dX9_collects_139 : decode cX9_collects 139 = .ok (.iadd, 1) := by decide +kernel
theorem dX9_collects_140 : decode cX9_collects 140 = .ok (.iaload, 1) := by decide +kernel
theorem dX9_collects_141 : decode cX9_collects 141 = .ok (.bipush 11, 2) := by decide +kernel
theorem dX9_collects_143 : decode cX9_collects 143 = .ok (.if_icmp .ne 31, 3) := by decide +kernel
theorem dX9_collects_146 : decode cX9_collects 146 = .ok (.iload 5, 2) := by decide +kernel
theorem dX9_collects_148 : decode cX9_collects 148 = .ok (.iconst (-1), 1) := by decide +kernel
theorem dX9_collects_149 : decode cX9_collects 149 = .ok (.if_icmp .eq 25, 3) := by decide +kernel
theorem dX9_collects_152 : decode cX9_collects 152 = .ok (.aload_n 0, 1) := by decide +kernel
theorem dX9_collects_153 : decode cX9_collects 153 = .ok (.iload 5, 2) := by decide +kernel
theorem dX9_collects_155 : decode cX9_collects 155 = .ok (.invokevirtual 106, 3) := by decide +kernel
theorem dX9_collects_158 : decode cX9_collects 158 = .ok (.ifCond .ne 16, 3) := by decide +kernel
theorem dX9_collects_161 : decode cX9_collects 161 = .ok (.aload_n 0, 1) := by decide +kernel
theorem dX9_collects_162 : decode cX9_collects 162 = .ok (.getfield 7, 3) := by decide +kernel
theorem dX9_collects_165 : decode cX9_collects 165 = .ok (.iload 4, 2) := by decide +kernel
theorem dX9_collects_167 : decode cX9_collects 167 = .ok (.invokestatic 103, 3) := by decide +kernel
theorem dX9_collects_170 : decode cX9_collects 170 = .ok (.iconst 5, 1) := by decide +kernel
theorem dX9_collects_171 : decode cX9_collects 171 = .ok (.iadd, 1) := by decide +kernel
theorem dX9_collects_172 : decode cX9_collects 172 = .ok (.iconst (-1), 1) := by decide +kernel
theorem dX9_collects_173 : decode cX9_collects 173 = .ok (.iastore, 1) := by decide +kernel
theorem dX9_collects_174 : decode cX9_collects 174 = .ok (.aload_n 0, 1) := by decide +kernel
theorem dX9_collects_175 : decode cX9_collects 175 = .ok (.getfield 7, 3) := by decide +kernel
theorem dX9_collects_178 : decode cX9_collects 178 = .ok (.iload 4, 2) := by decide +kernel
theorem dX9_collects_180 : decode cX9_collects 180 = .ok (.invokestatic 103, 3) := by decide +kernel
theorem dX9_collects_183 : decode cX9_collects 183 = .ok (.iconst 3, 1) := by decide +kernel
theorem dX9_collects_184 : decode cX9_collects 184 = .ok (.iadd, 1) := by decide +kernel
theorem dX9_collects_185 : decode cX9_collects 185 = .ok (.dup2, 1) := by decide +kernel
theorem dX9_collects_186 : decode cX9_collects 186 = .ok (.iaload, 1) := by decide +kernel
theorem dX9_collects_187 : decode cX9_collects 187 = .ok (.aload_n 0, 1) := by decide +kernel
theorem dX9_collects_188 : decode cX9_collects 188 = .ok (.getfield 7, 3) := by decide +kernel
theorem dX9_collects_191 : decode cX9_collects 191 = .ok (.iload 4, 2) := by decide +kernel
theorem dX9_collects_193 : decode cX9_collects 193 = .ok (.invokestatic 103, 3) := by decide +kernel
theorem dX9_collects_196 : decode cX9_collects 196 = .ok (.iconst 3, 1) := by decide +kernel
theorem dX9_collects_197 : decode cX9_collects 197 = .ok (.iadd, 1) := by decide +kernel
theorem dX9_collects_198 : decode cX9_collects 198 = .ok (.iaload, 1) := by decide +kernel
theorem dX9_collects_199 : decode cX9_collects 199 = .ok (.bipush 99, 2) := by decide +kernel
theorem dX9_collects_201 : decode cX9_collects 201 = .ok (.if_icmp .ge 7, 3) := by decide +kernel
theorem dX9_collects_204 : decode cX9_collects 204 = .ok (.iconst 1, 1) := by decide +kernel
theorem dX9_collects_205 : decode cX9_collects 205 = .ok (.goto 4, 3) := by decide +kernel
theorem dX9_collects_208 : decode cX9_collects 208 = .ok (.iconst 0, 1) := by decide +kernel
theorem dX9_collects_209 : decode cX9_collects 209 = .ok (.iadd, 1) := by decide +kernel
theorem dX9_collects_210 : decode cX9_collects 210 = .ok (.iastore, 1) := by decide +kernel
theorem dX9_collects_211 : decode cX9_collects 211 = .ok (.iinc 4 1, 3) := by decide +kernel
theorem dX9_collects_214 : decode cX9_collects 214 = .ok (.goto (-115), 3) := by decide +kernel
theorem dX9_collects_217 : decode cX9_collects 217 = .ok (.iload_n 3, 1) := by decide +kernel
theorem dX9_collects_218 : decode cX9_collects 218 = .ok (.ireturn, 1) := by decide +kernel
theorem dX9_collect_0 : decode cX9_collect 0 = .ok (.aload_n 0, 1) := by decide +kernel
theorem dX9_collect_1 : decode cX9_collect 1 = .ok (.iconst 0, 1) := by decide +kernel
theorem dX9_collect_2 : decode cX9_collect 2 = .ok (.putfield 63, 3) := by decide +kernel
theorem dX9_collect_5 : decode cX9_collect 5 = .ok (.aload_n 0, 1) := by decide +kernel
theorem dX9_collect_6 : decode cX9_collect 6 = .ok (.invokevirtual 89, 3) := by decide +kernel
theorem dX9_collect_9 : decode cX9_collect 9 = .ok (.aload_n 0, 1) := by decide +kernel
theorem dX9_collect_10 : decode cX9_collect 10 = .ok (.invokevirtual 142, 3) := by decide +kernel
theorem dX9_collect_13 : decode cX9_collect 13 = .ok (.ireturn, 1) := by decide +kernel
theorem dX9_objects_0 : decode cX9_objects 0 = .ok (.aload_n 0, 1) := by decide +kernel
theorem dX9_objects_1 : decode cX9_objects 1 = .ok (.iconst 0, 1) := by decide +kernel
theorem dX9_objects_2 : decode cX9_objects 2 = .ok (.putfield 63, 3) := by decide +kernel
theorem dX9_objects_5 : decode cX9_objects 5 = .ok (.aload_n 0, 1) := by decide +kernel
theorem dX9_objects_6 : decode cX9_objects 6 = .ok (.invokevirtual 112, 3) := by decide +kernel
theorem dX9_objects_9 : decode cX9_objects 9 = .ok (.ireturn, 1) := by decide +kernel
theorem dX9_exists_0 : decode cX9_exists 0 = .ok (.aload_n 0, 1) := by decide +kernel
theorem dX9_exists_1 : decode cX9_exists 1 = .ok (.iconst 0, 1) := by decide +kernel
theorem dX9_exists_2 : decode cX9_exists 2 = .ok (.putfield 63, 3) := by decide +kernel
theorem dX9_exists_5 : decode cX9_exists 5 = .ok (.aload_n 0, 1) := by decide +kernel
theorem dX9_exists_6 : decode cX9_exists 6 = .ok (.iload_n 1, 1) := by decide +kernel
theorem dX9_exists_7 : decode cX9_exists 7 = .ok (.invokevirtual 106, 3) := by decide +kernel
theorem dX9_exists_10 : decode cX9_exists 10 = .ok (.ireturn, 1) := by decide +kernel
theorem dX9_referencesFrom_0 : decode cX9_referencesFrom 0 = .ok (.iconst 0, 1) := by decide +kernel
theorem dX9_referencesFrom_1 : decode cX9_referencesFrom 1 = .ok (.istore_n 2, 1) := by decide +kernel
theorem dX9_referencesFrom_2 : decode cX9_referencesFrom 2 = .ok (.iconst 0, 1) := by decide +kernel
theorem dX9_referencesFrom_3 : decode cX9_referencesFrom 3 = .ok (.istore_n 3, 1) := by decide +kernel
theorem dX9_referencesFrom_4 : decode cX9_referencesFrom 4 = .ok (.iload_n 3, 1) := by decide +kernel
theorem dX9_referencesFrom_5 : decode cX9_referencesFrom 5 = .ok (.aload_n 0, 1) := by decide +kernel
theorem dX9_referencesFrom_6 : decode cX9_referencesFrom 6 = .ok (.getfield 7, 3) := by decide +kernel
theorem dX9_referencesFrom_9 : decode cX9_referencesFrom 9 = .ok (.iload_n 1, 1) := by decide +kernel
theorem dX9_referencesFrom_10 : decode cX9_referencesFrom 10 = .ok (.invokestatic 103, 3) := by decide +kernel
theorem dX9_referencesFrom_13 : decode cX9_referencesFrom 13 = .ok (.iconst 2, 1) := by decide +kernel
theorem dX9_referencesFrom_14 : decode cX9_referencesFrom 14 = .ok (.iadd, 1) := by decide +kernel
theorem dX9_referencesFrom_15 : decode cX9_referencesFrom 15 = .ok (.iaload, 1) := by decide +kernel
theorem dX9_referencesFrom_16 : decode cX9_referencesFrom 16 = .ok (.if_icmp .ge 50, 3) := by decide +kernel
theorem dX9_referencesFrom_19 : decode cX9_referencesFrom 19 = .ok (.aload_n 0, 1) := by decide +kernel
theorem dX9_referencesFrom_20 : decode cX9_referencesFrom 20 = .ok (.getfield 7, 3) := by decide +kernel
theorem dX9_referencesFrom_23 : decode cX9_referencesFrom 23 = .ok (.iload_n 1, 1) := by decide +kernel
theorem dX9_referencesFrom_24 : decode cX9_referencesFrom 24 = .ok (.invokestatic 103, 3) := by decide +kernel
theorem dX9_referencesFrom_27 : decode cX9_referencesFrom 27 = .ok (.iconst 1, 1) := by decide +kernel
theorem dX9_referencesFrom_28 : decode cX9_referencesFrom 28 = .ok (.iadd, 1) := by decide +kernel
theorem dX9_referencesFrom_29 : decode cX9_referencesFrom 29 = .ok (.iaload, 1) := by decide +kernel
theorem dX9_referencesFrom_30 : decode cX9_referencesFrom 30 = .ok (.bipush 11, 2) := by decide +kernel
theorem dX9_referencesFrom_32 : decode cX9_referencesFrom 32 = .ok (.if_icmp .eq 34, 3) := by decide +kernel
theorem dX9_referencesFrom_35 : decode cX9_referencesFrom 35 = .ok (.iload_n 2, 1) := by decide +kernel
theorem dX9_referencesFrom_36 : decode cX9_referencesFrom 36 = .ok (.aload_n 0, 1) := by decide +kernel
theorem dX9_referencesFrom_37 : decode cX9_referencesFrom 37 = .ok (.getfield 7, 3) := by decide +kernel
theorem dX9_referencesFrom_40 : decode cX9_referencesFrom 40 = .ok (.iload_n 1, 1) := by decide +kernel
theorem dX9_referencesFrom_41 : decode cX9_referencesFrom 41 = .ok (.invokestatic 103, 3) := by decide +kernel
theorem dX9_referencesFrom_44 : decode cX9_referencesFrom 44 = .ok (.iconst 5, 1) := by decide +kernel
theorem dX9_referencesFrom_45 : decode cX9_referencesFrom 45 = .ok (.iadd, 1) := by decide +kernel
theorem dX9_referencesFrom_46 : decode cX9_referencesFrom 46 = .ok (.iload_n 3, 1) := by decide +kernel
theorem dX9_referencesFrom_47 : decode cX9_referencesFrom 47 = .ok (.iadd, 1) := by decide +kernel
theorem dX9_referencesFrom_48 : decode cX9_referencesFrom 48 = .ok (.iaload, 1) := by decide +kernel
theorem dX9_referencesFrom_49 : decode cX9_referencesFrom 49 = .ok (.iconst (-1), 1) := by decide +kernel
theorem dX9_referencesFrom_50 : decode cX9_referencesFrom 50 = .ok (.if_icmp .eq 7, 3) := by decide +kernel
theorem dX9_referencesFrom_53 : decode cX9_referencesFrom 53 = .ok (.iconst 1, 1) := by decide +kernel
theorem dX9_referencesFrom_54 : decode cX9_referencesFrom 54 = .ok (.goto 4, 3) := by decide +kernel
theorem dX9_referencesFrom_57 : decode cX9_referencesFrom 57 = .ok (.iconst 0, 1) := by decide +kernel
theorem dX9_referencesFrom_58 : decode cX9_referencesFrom 58 = .ok (.iadd, 1) := by decide +kernel
theorem dX9_referencesFrom_59 : decode cX9_referencesFrom 59 = .ok (.istore_n 2, 1) := by decide +kernel
theorem dX9_referencesFrom_60 : decode cX9_referencesFrom 60 = .ok (.iinc 3 1, 3) := by decide +kernel
theorem dX9_referencesFrom_63 : decode cX9_referencesFrom 63 = .ok (.goto (-59), 3) := by decide +kernel
theorem dX9_referencesFrom_66 : decode cX9_referencesFrom 66 = .ok (.iload_n 2, 1) := by decide +kernel
theorem dX9_referencesFrom_67 : decode cX9_referencesFrom 67 = .ok (.ireturn, 1) := by decide +kernel
theorem dX9_referencesTo_0 : decode cX9_referencesTo 0 = .ok (.iconst 0, 1) := by decide +kernel
theorem dX9_referencesTo_1 : decode cX9_referencesTo 1 = .ok (.istore_n 2, 1) := by decide +kernel
theorem dX9_referencesTo_2 : decode cX9_referencesTo 2 = .ok (.iconst 0, 1) := by decide +kernel
theorem dX9_referencesTo_3 : decode cX9_referencesTo 3 = .ok (.istore_n 3, 1) := by decide +kernel
theorem dX9_referencesTo_4 : decode cX9_referencesTo 4 = .ok (.iload_n 3, 1) := by decide +kernel
theorem dX9_referencesTo_5 : decode cX9_referencesTo 5 = .ok (.bipush 40, 2) := by decide +kernel
theorem dX9_referencesTo_7 : decode cX9_referencesTo 7 = .ok (.if_icmp .ge 84, 3) := by decide +kernel
theorem dX9_referencesTo_10 : decode cX9_referencesTo 10 = .ok (.aload_n 0, 1) := by decide +kernel
theorem dX9_referencesTo_11 : decode cX9_referencesTo 11 = .ok (.iload_n 3, 1) := by decide +kernel
theorem dX9_referencesTo_12 : decode cX9_referencesTo 12 = .ok (.invokevirtual 106, 3) := by decide +kernel
theorem dX9_referencesTo_15 : decode cX9_referencesTo 15 = .ok (.ifCond .eq 70, 3) := by decide +kernel
theorem dX9_referencesTo_18 : decode cX9_referencesTo 18 = .ok (.aload_n 0, 1) := by decide +kernel
theorem dX9_referencesTo_19 : decode cX9_referencesTo 19 = .ok (.getfield 7, 3) := by decide +kernel
theorem dX9_referencesTo_22 : decode cX9_referencesTo 22 = .ok (.iload_n 3, 1) := by decide +kernel
theorem dX9_referencesTo_23 : decode cX9_referencesTo 23 = .ok (.invokestatic 103, 3) := by decide +kernel
theorem dX9_referencesTo_26 : decode cX9_referencesTo 26 = .ok (.iconst 1, 1) := by decide +kernel
theorem dX9_referencesTo_27 : decode cX9_referencesTo 27 = .ok (.iadd, 1) := by decide +kernel
theorem dX9_referencesTo_28 : decode cX9_referencesTo 28 = .ok (.iaload, 1) := by decide +kernel
theorem dX9_referencesTo_29 : decode cX9_referencesTo 29 = .ok (.bipush 11, 2) := by decide +kernel
theorem dX9_referencesTo_31 : decode cX9_referencesTo 31 = .ok (.if_icmp .eq 54, 3) := by decide +kernel
theorem dX9_referencesTo_34 : decode cX9_referencesTo 34 = .ok (.iconst 0, 1) := by decide +kernel
theorem dX9_referencesTo_35 : decode cX9_referencesTo 35 = .ok (.istore 4, 2) := by decide +kernel
theorem dX9_referencesTo_37 : decode cX9_referencesTo 37 = .ok (.iload 4, 2) := by decide +kernel
theorem dX9_referencesTo_39 : decode cX9_referencesTo 39 = .ok (.aload_n 0, 1) := by decide +kernel
theorem dX9_referencesTo_40 : decode cX9_referencesTo 40 = .ok (.getfield 7, 3) := by decide +kernel
theorem dX9_referencesTo_43 : decode cX9_referencesTo 43 = .ok (.iload_n 3, 1) := by decide +kernel
theorem dX9_referencesTo_44 : decode cX9_referencesTo 44 = .ok (.invokestatic 103, 3) := by decide +kernel
theorem dX9_referencesTo_47 : decode cX9_referencesTo 47 = .ok (.iconst 2, 1) := by decide +kernel
theorem dX9_referencesTo_48 : decode cX9_referencesTo 48 = .ok (.iadd, 1) := by decide +kernel
theorem dX9_referencesTo_49 : decode cX9_referencesTo 49 = .ok (.iaload, 1) := by decide +kernel
theorem dX9_referencesTo_50 : decode cX9_referencesTo 50 = .ok (.if_icmp .ge 35, 3) := by decide +kernel
theorem dX9_referencesTo_53 : decode cX9_referencesTo 53 = .ok (.iload_n 2, 1) := by decide +kernel
theorem dX9_referencesTo_54 : decode cX9_referencesTo 54 = .ok (.aload_n 0, 1) := by decide +kernel
theorem dX9_referencesTo_55 : decode cX9_referencesTo 55 = .ok (.getfield 7, 3) := by decide +kernel
theorem dX9_referencesTo_58 : decode cX9_referencesTo 58 = .ok (.iload_n 3, 1) := by decide +kernel
theorem dX9_referencesTo_59 : decode cX9_referencesTo 59 = .ok (.invokestatic 103, 3) := by decide +kernel
theorem dX9_referencesTo_62 : decode cX9_referencesTo 62 = .ok (.iconst 5, 1) := by decide +kernel
theorem dX9_referencesTo_63 : decode cX9_referencesTo 63 = .ok (.iadd, 1) := by decide +kernel
theorem dX9_referencesTo_64 : decode cX9_referencesTo 64 = .ok (.iload 4, 2) := by decide +kernel
theorem dX9_referencesTo_66 : decode cX9_referencesTo 66 = .ok (.iadd, 1) := by decide +kernel
theorem dX9_referencesTo_67 : decode cX9_referencesTo 67 = .ok (.iaload, 1) := by decide +kernel
theorem dX9_referencesTo_68 : decode cX9_referencesTo 68 = .ok (.iload_n 1, 1) := by decide +kernel
theorem dX9_referencesTo_69 : decode cX9_referencesTo 69 = .ok (.if_icmp .ne 7, 3) := by decide +kernel
theorem dX9_referencesTo_72 : decode cX9_referencesTo 72 = .ok (.iconst 1, 1) := by decide +kernel
theorem dX9_referencesTo_73 : decode cX9_referencesTo 73 = .ok (.goto 4, 3) := by decide +kernel
theorem dX9_referencesTo_76 : decode cX9_referencesTo 76 = .ok (.iconst 0, 1) := by decide +kernel
theorem dX9_referencesTo_77 : decode cX9_referencesTo 77 = .ok (.iadd, 1) := by decide +kernel
theorem dX9_referencesTo_78 : decode cX9_referencesTo 78 = .ok (.istore_n 2, 1) := by decide +kernel
theorem dX9_referencesTo_79 : decode cX9_referencesTo 79 = .ok (.iinc 4 1, 3) := by decide +kernel
theorem dX9_referencesTo_82 : decode cX9_referencesTo 82 = .ok (.goto (-45), 3) := by decide +kernel
theorem dX9_referencesTo_85 : decode cX9_referencesTo 85 = .ok (.iinc 3 1, 3) := by decide +kernel
theorem dX9_referencesTo_88 : decode cX9_referencesTo 88 = .ok (.goto (-84), 3) := by decide +kernel
theorem dX9_referencesTo_91 : decode cX9_referencesTo 91 = .ok (.iload_n 2, 1) := by decide +kernel
theorem dX9_referencesTo_92 : decode cX9_referencesTo 92 = .ok (.ireturn, 1) := by decide +kernel
theorem dX9_objectBy_0 : decode cX9_objectBy 0 = .ok (.iload_n 2, 1) := by decide +kernel
theorem dX9_objectBy_1 : decode cX9_objectBy 1 = .ok (.tableswitch 115 0 6 #[43, 55, 67, 73, 85, 97, 109], 43) := by decide +kernel
theorem dX9_objectBy_44 : decode cX9_objectBy 44 = .ok (.aload_n 0, 1) := by decide +kernel
theorem dX9_objectBy_45 : decode cX9_objectBy 45 = .ok (.getfield 7, 3) := by decide +kernel
theorem dX9_objectBy_48 : decode cX9_objectBy 48 = .ok (.iload_n 1, 1) := by decide +kernel
theorem dX9_objectBy_49 : decode cX9_objectBy 49 = .ok (.invokestatic 103, 3) := by decide +kernel
theorem dX9_objectBy_52 : decode cX9_objectBy 52 = .ok (.iconst 1, 1) := by decide +kernel
theorem dX9_objectBy_53 : decode cX9_objectBy 53 = .ok (.iadd, 1) := by decide +kernel
theorem dX9_objectBy_54 : decode cX9_objectBy 54 = .ok (.iaload, 1) := by decide +kernel
theorem dX9_objectBy_55 : decode cX9_objectBy 55 = .ok (.ireturn, 1) := by decide +kernel
theorem dX9_objectBy_56 : decode cX9_objectBy 56 = .ok (.aload_n 0, 1) := by decide +kernel
theorem dX9_objectBy_57 : decode cX9_objectBy 57 = .ok (.getfield 7, 3) := by decide +kernel
theorem dX9_objectBy_60 : decode cX9_objectBy 60 = .ok (.iload_n 1, 1) := by decide +kernel
theorem dX9_objectBy_61 : decode cX9_objectBy 61 = .ok (.invokestatic 103, 3) := by decide +kernel
theorem dX9_objectBy_64 : decode cX9_objectBy 64 = .ok (.iconst 0, 1) := by decide +kernel
theorem dX9_objectBy_65 : decode cX9_objectBy 65 = .ok (.iadd, 1) := by decide +kernel
theorem dX9_objectBy_66 : decode cX9_objectBy 66 = .ok (.iaload, 1) := by decide +kernel
theorem dX9_objectBy_67 : decode cX9_objectBy 67 = .ok (.ireturn, 1) := by decide +kernel
theorem dX9_objectBy_68 : decode cX9_objectBy 68 = .ok (.aload_n 0, 1) := by decide +kernel
theorem dX9_objectBy_69 : decode cX9_objectBy 69 = .ok (.iload_n 1, 1) := by decide +kernel
theorem dX9_objectBy_70 : decode cX9_objectBy 70 = .ok (.invokevirtual 109, 3) := by decide +kernel
theorem dX9_objectBy_73 : decode cX9_objectBy 73 = .ok (.ireturn, 1) := by decide +kernel
theorem dX9_objectBy_74 : decode cX9_objectBy 74 = .ok (.aload_n 0, 1) := by decide +kernel
theorem dX9_objectBy_75 : decode cX9_objectBy 75 = .ok (.getfield 7, 3) := by decide +kernel
theorem dX9_objectBy_78 : decode cX9_objectBy 78 = .ok (.iload_n 1, 1) := by decide +kernel
theorem dX9_objectBy_79 : decode cX9_objectBy 79 = .ok (.invokestatic 103, 3) := by decide +kernel
theorem dX9_objectBy_82 : decode cX9_objectBy 82 = .ok (.iconst 3, 1) := by decide +kernel
theorem dX9_objectBy_83 : decode cX9_objectBy 83 = .ok (.iadd, 1) := by decide +kernel
theorem dX9_objectBy_84 : decode cX9_objectBy 84 = .ok (.iaload, 1) := by decide +kernel
theorem dX9_objectBy_85 : decode cX9_objectBy 85 = .ok (.ireturn, 1) := by decide +kernel
theorem dX9_objectBy_86 : decode cX9_objectBy 86 = .ok (.aload_n 0, 1) := by decide +kernel
theorem dX9_objectBy_87 : decode cX9_objectBy 87 = .ok (.getfield 7, 3) := by decide +kernel
theorem dX9_objectBy_90 : decode cX9_objectBy 90 = .ok (.iload_n 1, 1) := by decide +kernel
theorem dX9_objectBy_91 : decode cX9_objectBy 91 = .ok (.invokestatic 103, 3) := by decide +kernel
theorem dX9_objectBy_94 : decode cX9_objectBy 94 = .ok (.iconst 2, 1) := by decide +kernel
theorem dX9_objectBy_95 : decode cX9_objectBy 95 = .ok (.iadd, 1) := by decide +kernel
theorem dX9_objectBy_96 : decode cX9_objectBy 96 = .ok (.iaload, 1) := by decide +kernel
theorem dX9_objectBy_97 : decode cX9_objectBy 97 = .ok (.ireturn, 1) := by decide +kernel
theorem dX9_objectBy_98 : decode cX9_objectBy 98 = .ok (.aload_n 0, 1) := by decide +kernel
theorem dX9_objectBy_99 : decode cX9_objectBy 99 = .ok (.getfield 7, 3) := by decide +kernel
theorem dX9_objectBy_102 : decode cX9_objectBy 102 = .ok (.iload_n 1, 1) := by decide +kernel
theorem dX9_objectBy_103 : decode cX9_objectBy 103 = .ok (.invokestatic 103, 3) := by decide +kernel
theorem dX9_objectBy_106 : decode cX9_objectBy 106 = .ok (.iconst 4, 1) := by decide +kernel
theorem dX9_objectBy_107 : decode cX9_objectBy 107 = .ok (.iadd, 1) := by decide +kernel
theorem dX9_objectBy_108 : decode cX9_objectBy 108 = .ok (.iaload, 1) := by decide +kernel
theorem dX9_objectBy_109 : decode cX9_objectBy 109 = .ok (.ireturn, 1) := by decide +kernel
theorem dX9_objectBy_110 : decode cX9_objectBy 110 = .ok (.aload_n 0, 1) := by decide +kernel
theorem dX9_objectBy_111 : decode cX9_objectBy 111 = .ok (.iload_n 1, 1) := by decide +kernel
theorem dX9_objectBy_112 : decode cX9_objectBy 112 = .ok (.invokevirtual 145, 3) := by decide +kernel
theorem dX9_objectBy_115 : decode cX9_objectBy 115 = .ok (.ireturn, 1) := by decide +kernel
theorem dX9_objectBy_116 : decode cX9_objectBy 116 = .ok (.aload_n 0, 1) := by decide +kernel
theorem dX9_objectBy_117 : decode cX9_objectBy 117 = .ok (.iload_n 1, 1) := by decide +kernel
theorem dX9_objectBy_118 : decode cX9_objectBy 118 = .ok (.invokevirtual 148, 3) := by decide +kernel
theorem dX9_objectBy_121 : decode cX9_objectBy 121 = .ok (.ireturn, 1) := by decide +kernel
theorem dX9_objectInfo_0 : decode cX9_objectInfo 0 = .ok (.aload_n 0, 1) := by decide +kernel
theorem dX9_objectInfo_1 : decode cX9_objectInfo 1 = .ok (.aload_n 0, 1) := by decide +kernel
theorem dX9_objectInfo_2 : decode cX9_objectInfo 2 = .ok (.iload_n 1, 1) := by decide +kernel
theorem dX9_objectInfo_3 : decode cX9_objectInfo 3 = .ok (.invokevirtual 106, 3) := by decide +kernel
theorem dX9_objectInfo_6 : decode cX9_objectInfo 6 = .ok (.ifCond .ne 7, 3) := by decide +kernel
theorem dX9_objectInfo_9 : decode cX9_objectInfo 9 = .ok (.iconst 1, 1) := by decide +kernel
theorem dX9_objectInfo_10 : decode cX9_objectInfo 10 = .ok (.goto 18, 3) := by decide +kernel
theorem dX9_objectInfo_13 : decode cX9_objectInfo 13 = .ok (.iload_n 2, 1) := by decide +kernel
theorem dX9_objectInfo_14 : decode cX9_objectInfo 14 = .ok (.iconst 0, 1) := by decide +kernel
theorem dX9_objectInfo_15 : decode cX9_objectInfo 15 = .ok (.bipush 7, 2) := by decide +kernel
theorem dX9_objectInfo_17 : decode cX9_objectInfo 17 = .ok (.invokestatic 78, 3) := by decide +kernel
theorem dX9_objectInfo_20 : decode cX9_objectInfo 20 = .ok (.ifCond .ne 7, 3) := by decide +kernel
theorem dX9_objectInfo_23 : decode cX9_objectInfo 23 = .ok (.iconst 2, 1) := by decide +kernel
theorem dX9_objectInfo_24 : decode cX9_objectInfo 24 = .ok (.goto 4, 3) := by decide +kernel
theorem dX9_objectInfo_27 : decode cX9_objectInfo 27 = .ok (.iconst 0, 1) := by decide +kernel
theorem dX9_objectInfo_28 : decode cX9_objectInfo 28 = .ok (.invokevirtual 74, 3) := by decide +kernel
theorem dX9_objectInfo_31 : decode cX9_objectInfo 31 = .ok (.ifCond .eq 7, 3) := by decide +kernel
theorem dX9_objectInfo_34 : decode cX9_objectInfo 34 = .ok (.iconst 0, 1) := by decide +kernel
theorem dX9_objectInfo_35 : decode cX9_objectInfo 35 = .ok (.goto 9, 3) := by decide +kernel
theorem dX9_objectInfo_38 : decode cX9_objectInfo 38 = .ok (.aload_n 0, 1) := by decide +kernel
theorem dX9_objectInfo_39 : decode cX9_objectInfo 39 = .ok (.iload_n 1, 1) := by decide +kernel
theorem dX9_objectInfo_40 : decode cX9_objectInfo 40 = .ok (.iload_n 2, 1) := by decide +kernel
theorem dX9_objectInfo_41 : decode cX9_objectInfo 41 = .ok (.invokevirtual 151, 3) := by decide +kernel
theorem dX9_objectInfo_44 : decode cX9_objectInfo 44 = .ok (.ireturn, 1) := by decide +kernel
theorem dX9_draw_0 : decode cX9_draw 0 = .ok (.aload_n 0, 1) := by decide +kernel
theorem dX9_draw_1 : decode cX9_draw 1 = .ok (.aload_n 0, 1) := by decide +kernel
theorem dX9_draw_2 : decode cX9_draw 2 = .ok (.getfield 154, 3) := by decide +kernel
theorem dX9_draw_5 : decode cX9_draw 5 = .ok (.ldc2_w 158, 3) := by decide +kernel
theorem dX9_draw_8 : decode cX9_draw 8 = .ok (.lmul, 1) := by decide +kernel
theorem dX9_draw_9 : decode cX9_draw 9 = .ok (.ldc2_w 160, 3) := by decide +kernel
theorem dX9_draw_12 : decode cX9_draw 12 = .ok (.ladd, 1) := by decide +kernel
theorem dX9_draw_13 : decode cX9_draw 13 = .ok (.ldc2_w 162, 3) := by decide +kernel
theorem dX9_draw_16 : decode cX9_draw 16 = .ok (.lrem, 1) := by decide +kernel
theorem dX9_draw_17 : decode cX9_draw 17 = .ok (.putfield 154, 3) := by decide +kernel
theorem dX9_draw_20 : decode cX9_draw 20 = .ok (.aload_n 0, 1) := by decide +kernel
theorem dX9_draw_21 : decode cX9_draw 21 = .ok (.getfield 154, 3) := by decide +kernel
theorem dX9_draw_24 : decode cX9_draw 24 = .ok (.ldc2_w 164, 3) := by decide +kernel
theorem dX9_draw_27 : decode cX9_draw 27 = .ok (.ldiv, 1) := by decide +kernel
theorem dX9_draw_28 : decode cX9_draw 28 = .ok (.iload_n 1, 1) := by decide +kernel
theorem dX9_draw_29 : decode cX9_draw 29 = .ok (.i2l, 1) := by decide +kernel
theorem dX9_draw_30 : decode cX9_draw 30 = .ok (.lrem, 1) := by decide +kernel
theorem dX9_draw_31 : decode cX9_draw 31 = .ok (.l2i, 1) := by decide +kernel
theorem dX9_draw_32 : decode cX9_draw 32 = .ok (.ireturn, 1) := by decide +kernel
theorem dX9_lowest_0 : decode cX9_lowest 0 = .ok (.iconst 0, 1) := by decide +kernel
theorem dX9_lowest_1 : decode cX9_lowest 1 = .ok (.istore_n 2, 1) := by decide +kernel
theorem dX9_lowest_2 : decode cX9_lowest 2 = .ok (.iload_n 1, 1) := by decide +kernel
theorem dX9_lowest_3 : decode cX9_lowest 3 = .ok (.istore_n 3, 1) := by decide +kernel
theorem dX9_lowest_4 : decode cX9_lowest 4 = .ok (.aload_n 0, 1) := by decide +kernel
theorem dX9_lowest_5 : decode cX9_lowest 5 = .ok (.iload_n 2, 1) := by decide +kernel
theorem dX9_lowest_6 : decode cX9_lowest 6 = .ok (.invokevirtual 106, 3) := by decide +kernel
theorem dX9_lowest_9 : decode cX9_lowest 9 = .ok (.ifCond .eq 7, 3) := by decide +kernel
theorem dX9_lowest_12 : decode cX9_lowest 12 = .ok (.iload_n 3, 1) := by decide +kernel
theorem dX9_lowest_13 : decode cX9_lowest 13 = .ok (.ifCond .le 25, 3) := by decide +kernel
theorem dX9_lowest_16 : decode cX9_lowest 16 = .ok (.iload_n 3, 1) := by decide +kernel
theorem dX9_lowest_17 : decode cX9_lowest 17 = .ok (.aload_n 0, 1) := by decide +kernel
theorem dX9_lowest_18 : decode cX9_lowest 18 = .ok (.iload_n 2, 1) := by decide +kernel
theorem dX9_lowest_19 : decode cX9_lowest 19 = .ok (.invokevirtual 106, 3) := by decide +kernel
theorem dX9_lowest_22 : decode cX9_lowest 22 = .ok (.ifCond .eq 7, 3) := by decide +kernel
theorem dX9_lowest_25 : decode cX9_lowest 25 = .ok (.iconst 1, 1) := by decide +kernel
theorem dX9_lowest_26 : decode cX9_lowest 26 = .ok (.goto 4, 3) := by decide +kernel
theorem dX9_lowest_29 : decode cX9_lowest 29 = .ok (.iconst 0, 1) := by decide +kernel
theorem dX9_lowest_30 : decode cX9_lowest 30 = .ok (.isub, 1) := by decide +kernel
theorem dX9_lowest_31 : decode cX9_lowest 31 = .ok (.istore_n 3, 1) := by decide +kernel
theorem dX9_lowest_32 : decode cX9_lowest 32 = .ok (.iinc 2 1, 3) := by decide +kernel
theorem dX9_lowest_35 : decode cX9_lowest 35 = .ok (.goto (-31), 3) := by decide +kernel
theorem dX9_lowest_38 : decode cX9_lowest 38 = .ok (.iload_n 2, 1) := by decide +kernel
theorem dX9_lowest_39 : decode cX9_lowest 39 = .ok (.ireturn, 1) := by decide +kernel
theorem dX9_populate_0 : decode cX9_populate 0 = .ok (.aload_n 0, 1) := by decide +kernel
theorem dX9_populate_1 : decode cX9_populate 1 = .ok (.iload_n 1, 1) := by decide +kernel
theorem dX9_populate_2 : decode cX9_populate 2 = .ok (.ifCond .lt 13, 3) := by decide +kernel
theorem dX9_populate_5 : decode cX9_populate 5 = .ok (.iload_n 2, 1) := by decide +kernel
theorem dX9_populate_6 : decode cX9_populate 6 = .ok (.iconst 1, 1) := by decide +kernel
theorem dX9_populate_7 : decode cX9_populate 7 = .ok (.bipush 40, 2) := by decide +kernel
theorem dX9_populate_9 : decode cX9_populate 9 = .ok (.invokestatic 78, 3) := by decide +kernel
theorem dX9_populate_12 : decode cX9_populate 12 = .ok (.ifCond .ne 7, 3) := by decide +kernel
theorem dX9_populate_15 : decode cX9_populate 15 = .ok (.iconst 1, 1) := by decide +kernel
theorem dX9_populate_16 : decode cX9_populate 16 = .ok (.goto 19, 3) := by decide +kernel
theorem dX9_populate_19 : decode cX9_populate 19 = .ok (.aload_n 0, 1) := by decide +kernel
theorem dX9_populate_20 : decode cX9_populate 20 = .ok (.invokevirtual 112, 3) := by decide +kernel
theorem dX9_populate_23 : decode cX9_populate 23 = .ok (.iload_n 2, 1) := by decide +kernel
theorem dX9_populate_24 : decode cX9_populate 24 = .ok (.iadd, 1) := by decide +kernel
theorem dX9_populate_25 : decode cX9_populate 25 = .ok (.bipush 40, 2) := by decide +kernel
theorem dX9_populate_27 : decode cX9_populate 27 = .ok (.if_icmp .le 7, 3) := by decide +kernel
theorem dX9_populate_30 : decode cX9_populate 30 = .ok (.iconst 2, 1) := by decide +kernel
theorem dX9_populate_31 : decode cX9_populate 31 = .ok (.goto 4, 3) := by decide +kernel
theorem dX9_populate_34 : decode cX9_populate 34 = .ok (.iconst 0, 1) := by decide +kernel
theorem dX9_populate_35 : decode cX9_populate 35 = .ok (.invokevirtual 74, 3) := by decide +kernel
theorem dX9_populate_38 : decode cX9_populate 38 = .ok (.ifCond .eq 5, 3) := by decide +kernel
theorem dX9_populate_41 : decode cX9_populate 41 = .ok (.iconst 0, 1) := by decide +kernel
theorem dX9_populate_42 : decode cX9_populate 42 = .ok (.ireturn, 1) := by decide +kernel
theorem dX9_populate_43 : decode cX9_populate 43 = .ok (.aload_n 0, 1) := by decide +kernel
theorem dX9_populate_44 : decode cX9_populate 44 = .ok (.invokevirtual 89, 3) := by decide +kernel
theorem dX9_populate_47 : decode cX9_populate 47 = .ok (.aload_n 0, 1) := by decide +kernel
theorem dX9_populate_48 : decode cX9_populate 48 = .ok (.iload_n 1, 1) := by decide +kernel
theorem dX9_populate_49 : decode cX9_populate 49 = .ok (.i2l, 1) := by decide +kernel
theorem dX9_populate_50 : decode cX9_populate 50 = .ok (.putfield 154, 3) := by decide +kernel
theorem dX9_populate_53 : decode cX9_populate 53 = .ok (.iconst 0, 1) := by decide +kernel
theorem dX9_populate_54 : decode cX9_populate 54 = .ok (.istore_n 3, 1) := by decide +kernel
theorem dX9_populate_55 : decode cX9_populate 55 = .ok (.iload_n 3, 1) := by decide +kernel
theorem dX9_populate_56 : decode cX9_populate 56 = .ok (.iload_n 2, 1) := by decide +kernel
theorem dX9_populate_57 : decode cX9_populate 57 = .ok (.if_icmp .ge 175, 3) := by decide +kernel
theorem dX9_populate_60 : decode cX9_populate 60 = .ok (.aload_n 0, 1) := by decide +kernel
theorem dX9_populate_61 : decode cX9_populate 61 = .ok (.iconst 4, 1) := by decide +kernel
theorem dX9_populate_62 : decode cX9_populate 62 = .ok (.invokevirtual 166, 3) := by decide +kernel
theorem dX9_populate_65 : decode cX9_populate 65 = .ok (.istore 4, 2) := by decide +kernel
theorem dX9_populate_67 : decode cX9_populate 67 = .ok (.iconst 0, 1) := by decide +kernel
theorem dX9_populate_68 : decode cX9_populate 68 = .ok (.istore 5, 2) := by decide +kernel
theorem dX9_populate_70 : decode cX9_populate 70 = .ok (.iload 4, 2) := by decide +kernel
theorem dX9_populate_72 : decode cX9_populate 72 = .ok (.iconst 2, 1) := by decide +kernel
theorem dX9_populate_73 : decode cX9_populate 73 = .ok (.if_icmp .ge 32, 3) := by decide +kernel
theorem dX9_populate_76 : decode cX9_populate 76 = .ok (.aload_n 0, 1) := by decide +kernel
theorem dX9_populate_77 : decode cX9_populate 77 = .ok (.aload_n 0, 1) := by decide +kernel
theorem dX9_populate_78 : decode cX9_populate 78 = .ok (.getfield 7, 3) := by decide +kernel
theorem dX9_populate_81 : decode cX9_populate 81 = .ok (.iconst 0, 1) := by decide +kernel
theorem dX9_populate_82 : decode cX9_populate 82 = .ok (.iaload, 1) := by decide +kernel
theorem dX9_populate_83 : decode cX9_populate 83 = .ok (.invokevirtual 166, 3) := by decide +kernel
theorem dX9_populate_86 : decode cX9_populate 86 = .ok (.istore 6, 2) := by decide +kernel
theorem dX9_populate_88 : decode cX9_populate 88 = .ok (.aload_n 0, 1) := by decide +kernel
theorem dX9_populate_89 : decode cX9_populate 89 = .ok (.iload 6, 2) := by decide +kernel
theorem dX9_populate_91 : decode cX9_populate 91 = .ok (.aload_n 0, 1) := by decide +kernel
theorem dX9_populate_92 : decode cX9_populate 92 = .ok (.iload 6, 2) := by decide +kernel
theorem dX9_populate_94 : decode cX9_populate 94 = .ok (.invokevirtual 82, 3) := by decide +kernel
theorem dX9_populate_97 : decode cX9_populate 97 = .ok (.invokevirtual 119, 3) := by decide +kernel
theorem dX9_populate_100 : decode cX9_populate 100 = .ok (.istore 5, 2) := by decide +kernel
theorem dX9_populate_102 : decode cX9_populate 102 = .ok (.goto 33, 3) := by decide +kernel
theorem dX9_populate_105 : decode cX9_populate 105 = .ok (.iload 4, 2) := by decide +kernel
theorem dX9_populate_107 : decode cX9_populate 107 = .ok (.iconst 2, 1) := by decide +kernel
theorem dX9_populate_108 : decode cX9_populate 108 = .ok (.if_icmp .ne 18, 3) := by decide +kernel
theorem dX9_populate_111 : decode cX9_populate 111 = .ok (.aload_n 0, 1) := by decide +kernel
theorem dX9_populate_112 : decode cX9_populate 112 = .ok (.bipush 10, 2) := by decide +kernel
theorem dX9_populate_114 : decode cX9_populate 114 = .ok (.aload_n 0, 1) := by decide +kernel
theorem dX9_populate_115 : decode cX9_populate 115 = .ok (.bipush 9, 2) := by decide +kernel
theorem dX9_populate_117 : decode cX9_populate 117 = .ok (.invokevirtual 166, 3) := by decide +kernel
theorem dX9_populate_120 : decode cX9_populate 120 = .ok (.invokevirtual 119, 3) := by decide +kernel
theorem dX9_populate_123 : decode cX9_populate 123 = .ok (.goto 10, 3) := by decide +kernel
theorem dX9_populate_126 : decode cX9_populate 126 = .ok (.aload_n 0, 1) := by decide +kernel
theorem dX9_populate_127 : decode cX9_populate 127 = .ok (.bipush 11, 2) := by decide +kernel
theorem dX9_populate_129 : decode cX9_populate 129 = .ok (.iconst 1, 1) := by decide +kernel
theorem dX9_populate_130 : decode cX9_populate 130 = .ok (.invokevirtual 119, 3) := by decide +kernel
theorem dX9_populate_133 : decode cX9_populate 133 = .ok (.istore 5, 2) := by decide +kernel
theorem dX9_populate_135 : decode cX9_populate 135 = .ok (.iconst 0, 1) := by decide +kernel
theorem dX9_populate_136 : decode cX9_populate 136 = .ok (.istore 6, 2) := by decide +kernel
theorem dX9_populate_138 : decode cX9_populate 138 = .ok (.iload 6, 2) := by decide +kernel
theorem dX9_populate_140 : decode cX9_populate 140 = .ok (.aload_n 0, 1) := by decide +kernel
theorem dX9_populate_141 : decode cX9_populate 141 = .ok (.getfield 7, 3) := by decide +kernel
theorem dX9_populate_144 : decode cX9_populate 144 = .ok (.iload 5, 2) := by decide +kernel
theorem dX9_populate_146 : decode cX9_populate 146 = .ok (.invokestatic 103, 3) := by decide +kernel
theorem dX9_populate_149 : decode cX9_populate 149 = .ok (.iconst 2, 1) := by decide +kernel
theorem dX9_populate_150 : decode cX9_populate 150 = .ok (.iadd, 1) := by decide +kernel
theorem dX9_populate_151 : decode cX9_populate 151 = .ok (.iaload, 1) := by decide +kernel
theorem dX9_populate_152 : decode cX9_populate 152 = .ok (.if_icmp .ge 44, 3) := by decide +kernel
theorem dX9_populate_155 : decode cX9_populate 155 = .ok (.aload_n 0, 1) := by decide +kernel
theorem dX9_populate_156 : decode cX9_populate 156 = .ok (.iconst 3, 1) := by decide +kernel
theorem dX9_populate_157 : decode cX9_populate 157 = .ok (.invokevirtual 166, 3) := by decide +kernel
theorem dX9_populate_160 : decode cX9_populate 160 = .ok (.ifCond .eq 30, 3) := by decide +kernel
theorem dX9_populate_163 : decode cX9_populate 163 = .ok (.aload_n 0, 1) := by decide +kernel
theorem dX9_populate_164 : decode cX9_populate 164 = .ok (.getfield 7, 3) := by decide +kernel
theorem dX9_populate_167 : decode cX9_populate 167 = .ok (.iload 5, 2) := by decide +kernel
theorem dX9_populate_169 : decode cX9_populate 169 = .ok (.invokestatic 103, 3) := by decide +kernel
theorem dX9_populate_172 : decode cX9_populate 172 = .ok (.iconst 5, 1) := by decide +kernel
theorem dX9_populate_173 : decode cX9_populate 173 = .ok (.iadd, 1) := by decide +kernel
theorem dX9_populate_174 : decode cX9_populate 174 = .ok (.iload 6, 2) := by decide +kernel
theorem dX9_populate_176 : decode cX9_populate 176 = .ok (.iadd, 1) := by decide +kernel
theorem dX9_populate_177 : decode cX9_populate 177 = .ok (.aload_n 0, 1) := by decide +kernel
theorem dX9_populate_178 : decode cX9_populate 178 = .ok (.aload_n 0, 1) := by decide +kernel
theorem dX9_populate_179 : decode cX9_populate 179 = .ok (.aload_n 0, 1) := by decide +kernel
theorem dX9_populate_180 : decode cX9_populate 180 = .ok (.invokevirtual 112, 3) := by decide +kernel
theorem dX9_populate_183 : decode cX9_populate 183 = .ok (.invokevirtual 166, 3) := by decide +kernel
theorem dX9_populate_186 : decode cX9_populate 186 = .ok (.invokevirtual 169, 3) := by decide +kernel
theorem dX9_populate_189 : decode cX9_populate 189 = .ok (.iastore, 1) := by decide +kernel
theorem dX9_populate_190 : decode cX9_populate 190 = .ok (.iinc 6 1, 3) := by decide +kernel
theorem dX9_populate_193 : decode cX9_populate 193 = .ok (.goto (-55), 3) := by decide +kernel
theorem dX9_populate_196 : decode cX9_populate 196 = .ok (.aload_n 0, 1) := by decide +kernel
theorem dX9_populate_197 : decode cX9_populate 197 = .ok (.iconst 5, 1) := by decide +kernel
theorem dX9_populate_198 : decode cX9_populate 198 = .ok (.invokevirtual 166, 3) := by decide +kernel
theorem dX9_populate_201 : decode cX9_populate 201 = .ok (.ifCond .ne 25, 3) := by decide +kernel
theorem dX9_populate_204 : decode cX9_populate 204 = .ok (.aload_n 0, 1) := by decide +kernel
theorem dX9_populate_205 : decode cX9_populate 205 = .ok (.getfield 7, 3) := by decide +kernel
theorem dX9_populate_208 : decode cX9_populate 208 = .ok (.iload 5, 2) := by decide +kernel
theorem dX9_populate_210 : decode cX9_populate 210 = .ok (.invokestatic 103, 3) := by decide +kernel
theorem dX9_populate_213 : decode cX9_populate 213 = .ok (.iconst 4, 1) := by decide +kernel
theorem dX9_populate_214 : decode cX9_populate 214 = .ok (.iadd, 1) := by decide +kernel
theorem dX9_populate_215 : decode cX9_populate 215 = .ok (.dup2, 1) := by decide +kernel
theorem dX9_populate_216 : decode cX9_populate 216 = .ok (.iaload, 1) := by decide +kernel
theorem dX9_populate_217 : decode cX9_populate 217 = .ok (.iconst 1, 1) := by decide +kernel
theorem dX9_populate_218 : decode cX9_populate 218 = .ok (.aload_n 0, 1) := by decide +kernel
theorem dX9_populate_219 : decode cX9_populate 219 = .ok (.iconst 3, 1) := by decide +kernel
theorem dX9_populate_220 : decode cX9_populate 220 = .ok (.invokevirtual 166, 3) := by decide +kernel
theorem dX9_populate_223 : decode cX9_populate 223 = .ok (.ishl, 1) := by decide +kernel
theorem dX9_populate_224 : decode cX9_populate 224 = .ok (.ior, 1) := by decide +kernel
theorem dX9_populate_225 : decode cX9_populate 225 = .ok (.iastore, 1) := by decide +kernel
theorem dX9_populate_226 : decode cX9_populate 226 = .ok (.iinc 3 1, 3) := by decide +kernel
theorem dX9_populate_229 : decode cX9_populate 229 = .ok (.goto (-174), 3) := by decide +kernel
theorem dX9_populate_232 : decode cX9_populate 232 = .ok (.aload_n 0, 1) := by decide +kernel
theorem dX9_populate_233 : decode cX9_populate 233 = .ok (.invokevirtual 112, 3) := by decide +kernel
theorem dX9_populate_236 : decode cX9_populate 236 = .ok (.ireturn, 1) := by decide +kernel
theorem dX9_laysRetained_0 : decode cX9_laysRetained 0 = .ok (.aload_n 0, 1) := by decide +kernel
theorem dX9_laysRetained_1 : decode cX9_laysRetained 1 = .ok (.aload_n 0, 1) := by decide +kernel
theorem dX9_laysRetained_2 : decode cX9_laysRetained 2 = .ok (.lconst 0, 1) := by decide +kernel
theorem dX9_laysRetained_3 : decode cX9_laysRetained 3 = .ok (.iconst (-1), 1) := by decide +kernel
theorem dX9_laysRetained_4 : decode cX9_laysRetained 4 = .ok (.iconst (-1), 1) := by decide +kernel
theorem dX9_laysRetained_5 : decode cX9_laysRetained 5 = .ok (.iconst (-1), 1) := by decide +kernel
theorem dX9_laysRetained_6 : decode cX9_laysRetained 6 = .ok (.invokevirtual 138, 3) := by decide +kernel
theorem dX9_laysRetained_9 : decode cX9_laysRetained 9 = .ok (.putfield 178, 3) := by decide +kernel
theorem dX9_laysRetained_12 : decode cX9_laysRetained 12 = .ok (.iconst 0, 1) := by decide +kernel
theorem dX9_laysRetained_13 : decode cX9_laysRetained 13 = .ok (.istore_n 1, 1) := by decide +kernel
theorem dX9_laysRetained_14 : decode cX9_laysRetained 14 = .ok (.iload_n 1, 1) := by decide +kernel
theorem dX9_laysRetained_15 : decode cX9_laysRetained 15 = .ok (.bipush 40, 2) := by decide +kernel
theorem dX9_laysRetained_17 : decode cX9_laysRetained 17 = .ok (.if_icmp .ge 51, 3) := by decide +kernel
theorem dX9_laysRetained_20 : decode cX9_laysRetained 20 = .ok (.aload_n 0, 1) := by decide +kernel
theorem dX9_laysRetained_21 : decode cX9_laysRetained 21 = .ok (.getfield 31, 3) := by decide +kernel
theorem dX9_laysRetained_24 : decode cX9_laysRetained 24 = .ok (.iload_n 1, 1) := by decide +kernel
theorem dX9_laysRetained_25 : decode cX9_laysRetained 25 = .ok (.aload_n 0, 1) := by decide +kernel
theorem dX9_laysRetained_26 : decode cX9_laysRetained 26 = .ok (.getfield 178, 3) := by decide +kernel
theorem dX9_laysRetained_29 : decode cX9_laysRetained 29 = .ok (.iload_n 1, 1) := by decide +kernel
theorem dX9_laysRetained_30 : decode cX9_laysRetained 30 = .ok (.lshr, 1) := by decide +kernel
theorem dX9_laysRetained_31 : decode cX9_laysRetained 31 = .ok (.lconst 1, 1) := by decide +kernel
theorem dX9_laysRetained_32 : decode cX9_laysRetained 32 = .ok (.land, 1) := by decide +kernel
theorem dX9_laysRetained_33 : decode cX9_laysRetained 33 = .ok (.lconst 1, 1) := by decide +kernel
theorem dX9_laysRetained_34 : decode cX9_laysRetained 34 = .ok (.lcmp, 1) := by decide +kernel
theorem dX9_laysRetained_35 : decode cX9_laysRetained 35 = .ok (.ifCond .ne 25, 3) := by decide +kernel
theorem dX9_laysRetained_38 : decode cX9_laysRetained 38 = .ok (.aload_n 0, 1) := by decide +kernel
theorem dX9_laysRetained_39 : decode cX9_laysRetained 39 = .ok (.getfield 178, 3) := by decide +kernel
theorem dX9_laysRetained_42 : decode cX9_laysRetained 42 = .ok (.aload_n 0, 1) := by decide +kernel
theorem dX9_laysRetained_43 : decode cX9_laysRetained 43 = .ok (.lconst 1, 1) := by decide +kernel
theorem dX9_laysRetained_44 : decode cX9_laysRetained 44 = .ok (.iload_n 1, 1) := by decide +kernel
theorem dX9_laysRetained_45 : decode cX9_laysRetained 45 = .ok (.lshl, 1) := by decide +kernel
theorem dX9_laysRetained_46 : decode cX9_laysRetained 46 = .ok (.iconst (-1), 1) := by decide +kernel
theorem dX9_laysRetained_47 : decode cX9_laysRetained 47 = .ok (.iconst (-1), 1) := by decide +kernel
theorem dX9_laysRetained_48 : decode cX9_laysRetained 48 = .ok (.iconst (-1), 1) := by decide +kernel
theorem dX9_laysRetained_49 : decode cX9_laysRetained 49 = .ok (.invokevirtual 138, 3) := by decide +kernel
theorem dX9_laysRetained_52 : decode cX9_laysRetained 52 = .ok (.ldc2_w 172, 3) := by decide +kernel
theorem dX9_laysRetained_55 : decode cX9_laysRetained 55 = .ok (.lxor, 1) := by decide +kernel
theorem dX9_laysRetained_56 : decode cX9_laysRetained 56 = .ok (.land, 1) := by decide +kernel
theorem dX9_laysRetained_57 : decode cX9_laysRetained 57 = .ok (.goto 4, 3) := by decide +kernel
theorem dX9_laysRetained_60 : decode cX9_laysRetained 60 = .ok (.lconst 0, 1) := by decide +kernel
theorem dX9_laysRetained_61 : decode cX9_laysRetained 61 = .ok (.lastore, 1) := by decide +kernel
theorem dX9_laysRetained_62 : decode cX9_laysRetained 62 = .ok (.iinc 1 1, 3) := by decide +kernel
theorem dX9_laysRetained_65 : decode cX9_laysRetained 65 = .ok (.goto (-51), 3) := by decide +kernel
theorem dX9_laysRetained_68 : decode cX9_laysRetained 68 = .ok (.return_, 1) := by decide +kernel
theorem dX9_isReached_0 : decode cX9_isReached 0 = .ok (.aload_n 0, 1) := by decide +kernel
theorem dX9_isReached_1 : decode cX9_isReached 1 = .ok (.getfield 178, 3) := by decide +kernel
theorem dX9_isReached_4 : decode cX9_isReached 4 = .ok (.iload_n 1, 1) := by decide +kernel
theorem dX9_isReached_5 : decode cX9_isReached 5 = .ok (.lshr, 1) := by decide +kernel
theorem dX9_isReached_6 : decode cX9_isReached 6 = .ok (.lconst 1, 1) := by decide +kernel
theorem dX9_isReached_7 : decode cX9_isReached 7 = .ok (.land, 1) := by decide +kernel
theorem dX9_isReached_8 : decode cX9_isReached 8 = .ok (.lconst 1, 1) := by decide +kernel
theorem dX9_isReached_9 : decode cX9_isReached 9 = .ok (.lcmp, 1) := by decide +kernel
theorem dX9_isReached_10 : decode cX9_isReached 10 = .ok (.ifCond .ne 7, 3) := by decide +kernel
theorem dX9_isReached_13 : decode cX9_isReached 13 = .ok (.iconst 1, 1) := by decide +kernel
theorem dX9_isReached_14 : decode cX9_isReached 14 = .ok (.goto 4, 3) := by decide +kernel
theorem dX9_isReached_17 : decode cX9_isReached 17 = .ok (.iconst 0, 1) := by decide +kernel
theorem dX9_isReached_18 : decode cX9_isReached 18 = .ok (.ireturn, 1) := by decide +kernel
theorem dX9_depthOf_0 : decode cX9_depthOf 0 = .ok (.iconst (-1), 1) := by decide +kernel
theorem dX9_depthOf_1 : decode cX9_depthOf 1 = .ok (.istore_n 2, 1) := by decide +kernel
theorem dX9_depthOf_2 : decode cX9_depthOf 2 = .ok (.iconst 0, 1) := by decide +kernel
theorem dX9_depthOf_3 : decode cX9_depthOf 3 = .ok (.istore_n 3, 1) := by decide +kernel
theorem dX9_depthOf_4 : decode cX9_depthOf 4 = .ok (.iload_n 3, 1) := by decide +kernel
theorem dX9_depthOf_5 : decode cX9_depthOf 5 = .ok (.bipush 40, 2) := by decide +kernel
theorem dX9_depthOf_7 : decode cX9_depthOf 7 = .ok (.if_icmp .ge 32, 3) := by decide +kernel
theorem dX9_depthOf_10 : decode cX9_depthOf 10 = .ok (.iload_n 2, 1) := by decide +kernel
theorem dX9_depthOf_11 : decode cX9_depthOf 11 = .ok (.aload_n 0, 1) := by decide +kernel
theorem dX9_depthOf_12 : decode cX9_depthOf 12 = .ok (.getfield 31, 3) := by decide +kernel
theorem dX9_depthOf_15 : decode cX9_depthOf 15 = .ok (.iload_n 3, 1) := by decide +kernel
theorem dX9_depthOf_16 : decode cX9_depthOf 16 = .ok (.laload, 1) := by decide +kernel
theorem dX9_depthOf_17 : decode cX9_depthOf 17 = .ok (.iload_n 1, 1) := by decide +kernel
theorem dX9_depthOf_18 : decode cX9_depthOf 18 = .ok (.lshr, 1) := by decide +kernel
theorem dX9_depthOf_19 : decode cX9_depthOf 19 = .ok (.lconst 1, 1) := by decide +kernel
theorem dX9_depthOf_20 : decode cX9_depthOf 20 = .ok (.land, 1) := by decide +kernel
theorem dX9_depthOf_21 : decode cX9_depthOf 21 = .ok (.lconst 1, 1) := by decide +kernel
theorem dX9_depthOf_22 : decode cX9_depthOf 22 = .ok (.lcmp, 1) := by decide +kernel
theorem dX9_depthOf_23 : decode cX9_depthOf 23 = .ok (.ifCond .ne 7, 3) := by decide +kernel
theorem dX9_depthOf_26 : decode cX9_depthOf 26 = .ok (.iconst 1, 1) := by decide +kernel
theorem dX9_depthOf_27 : decode cX9_depthOf 27 = .ok (.goto 4, 3) := by decide +kernel
theorem dX9_depthOf_30 : decode cX9_depthOf 30 = .ok (.iconst 0, 1) := by decide +kernel
theorem dX9_depthOf_31 : decode cX9_depthOf 31 = .ok (.iadd, 1) := by decide +kernel
theorem dX9_depthOf_32 : decode cX9_depthOf 32 = .ok (.istore_n 2, 1) := by decide +kernel
theorem dX9_depthOf_33 : decode cX9_depthOf 33 = .ok (.iinc 3 1, 3) := by decide +kernel
theorem dX9_depthOf_36 : decode cX9_depthOf 36 = .ok (.goto (-32), 3) := by decide +kernel
theorem dX9_depthOf_39 : decode cX9_depthOf 39 = .ok (.iload_n 2, 1) := by decide +kernel
theorem dX9_depthOf_40 : decode cX9_depthOf 40 = .ok (.ireturn, 1) := by decide +kernel
theorem dX9_immediate_0 : decode cX9_immediate 0 = .ok (.iconst (-1), 1) := by decide +kernel
theorem dX9_immediate_1 : decode cX9_immediate 1 = .ok (.istore_n 2, 1) := by decide +kernel
theorem dX9_immediate_2 : decode cX9_immediate 2 = .ok (.iconst 0, 1) := by decide +kernel
theorem dX9_immediate_3 : decode cX9_immediate 3 = .ok (.istore_n 3, 1) := by decide +kernel
theorem dX9_immediate_4 : decode cX9_immediate 4 = .ok (.iload_n 3, 1) := by decide +kernel
theorem dX9_immediate_5 : decode cX9_immediate 5 = .ok (.bipush 40, 2) := by decide +kernel
theorem dX9_immediate_7 : decode cX9_immediate 7 = .ok (.if_icmp .ge 54, 3) := by decide +kernel
theorem dX9_immediate_10 : decode cX9_immediate 10 = .ok (.aload_n 0, 1) := by decide +kernel
theorem dX9_immediate_11 : decode cX9_immediate 11 = .ok (.iload_n 1, 1) := by decide +kernel
theorem dX9_immediate_12 : decode cX9_immediate 12 = .ok (.invokevirtual 181, 3) := by decide +kernel
theorem dX9_immediate_15 : decode cX9_immediate 15 = .ok (.ifCond .eq 46, 3) := by decide +kernel
theorem dX9_immediate_18 : decode cX9_immediate 18 = .ok (.iload_n 3, 1) := by decide +kernel
theorem dX9_immediate_19 : decode cX9_immediate 19 = .ok (.iload_n 1, 1) := by decide +kernel
theorem dX9_immediate_20 : decode cX9_immediate 20 = .ok (.if_icmp .eq 35, 3) := by decide +kernel
theorem dX9_immediate_23 : decode cX9_immediate 23 = .ok (.aload_n 0, 1) := by decide +kernel
theorem dX9_immediate_24 : decode cX9_immediate 24 = .ok (.getfield 31, 3) := by decide +kernel
theorem dX9_immediate_27 : decode cX9_immediate 27 = .ok (.iload_n 3, 1) := by decide +kernel
theorem dX9_immediate_28 : decode cX9_immediate 28 = .ok (.laload, 1) := by decide +kernel
theorem dX9_immediate_29 : decode cX9_immediate 29 = .ok (.iload_n 1, 1) := by decide +kernel
theorem dX9_immediate_30 : decode cX9_immediate 30 = .ok (.lshr, 1) := by decide +kernel
theorem dX9_immediate_31 : decode cX9_immediate 31 = .ok (.lconst 1, 1) := by decide +kernel
theorem dX9_immediate_32 : decode cX9_immediate 32 = .ok (.land, 1) := by decide +kernel
theorem dX9_immediate_33 : decode cX9_immediate 33 = .ok (.lconst 1, 1) := by decide +kernel
theorem dX9_immediate_34 : decode cX9_immediate 34 = .ok (.lcmp, 1) := by decide +kernel
theorem dX9_immediate_35 : decode cX9_immediate 35 = .ok (.ifCond .ne 20, 3) := by decide +kernel
theorem dX9_immediate_38 : decode cX9_immediate 38 = .ok (.aload_n 0, 1) := by decide +kernel
theorem dX9_immediate_39 : decode cX9_immediate 39 = .ok (.iload_n 3, 1) := by decide +kernel
theorem dX9_immediate_40 : decode cX9_immediate 40 = .ok (.invokevirtual 184, 3) := by decide +kernel
theorem dX9_immediate_43 : decode cX9_immediate 43 = .ok (.aload_n 0, 1) := by decide +kernel
theorem dX9_immediate_44 : decode cX9_immediate 44 = .ok (.iload_n 1, 1) := by decide +kernel
theorem dX9_immediate_45 : decode cX9_immediate 45 = .ok (.invokevirtual 184, 3) := by decide +kernel
theorem dX9_immediate_48 : decode cX9_immediate 48 = .ok (.iconst 1, 1) := by decide +kernel
theorem dX9_immediate_49 : decode cX9_immediate 49 = .ok (.isub, 1) := by decide +kernel
theorem dX9_immediate_50 : decode cX9_immediate 50 = .ok (.if_icmp .ne 5, 3) := by decide +kernel
theorem dX9_immediate_53 : decode cX9_immediate 53 = .ok (.iload_n 3, 1) := by decide +kernel
theorem dX9_immediate_54 : decode cX9_immediate 54 = .ok (.istore_n 2, 1) := by decide +kernel
theorem dX9_immediate_55 : decode cX9_immediate 55 = .ok (.iinc 3 1, 3) := by decide +kernel
theorem dX9_immediate_58 : decode cX9_immediate 58 = .ok (.goto (-54), 3) := by decide +kernel
theorem dX9_immediate_61 : decode cX9_immediate 61 = .ok (.iload_n 2, 1) := by decide +kernel
theorem dX9_immediate_62 : decode cX9_immediate 62 = .ok (.ireturn, 1) := by decide +kernel
theorem dX9_laysFar_0 : decode cX9_laysFar 0 = .ok (.lconst 0, 1) := by decide +kernel
theorem dX9_laysFar_1 : decode cX9_laysFar 1 = .ok (.lstore_n 1, 1) := by decide +kernel
theorem dX9_laysFar_2 : decode cX9_laysFar 2 = .ok (.lconst 0, 1) := by decide +kernel
theorem dX9_laysFar_3 : decode cX9_laysFar 3 = .ok (.lstore_n 3, 1) := by decide +kernel
theorem dX9_laysFar_4 : decode cX9_laysFar 4 = .ok (.iconst 0, 1) := by decide +kernel
theorem dX9_laysFar_5 : decode cX9_laysFar 5 = .ok (.istore 5, 2) := by decide +kernel
theorem dX9_laysFar_7 : decode cX9_laysFar 7 = .ok (.iload 5, 2) := by decide +kernel
theorem dX9_laysFar_9 : decode cX9_laysFar 9 = .ok (.bipush 40, 2) := by decide +kernel
theorem dX9_laysFar_11 : decode cX9_laysFar 11 = .ok (.if_icmp .ge 52, 3) := by decide +kernel
theorem dX9_laysFar_14 : decode cX9_laysFar 14 = .ok (.aload_n 0, 1) := by decide +kernel
theorem dX9_laysFar_15 : decode cX9_laysFar 15 = .ok (.getfield 35, 3) := by decide +kernel
theorem dX9_laysFar_18 : decode cX9_laysFar 18 = .ok (.iload 5, 2) := by decide +kernel
theorem dX9_laysFar_20 : decode cX9_laysFar 20 = .ok (.iconst (-1), 1) := by decide +kernel
theorem dX9_laysFar_21 : decode cX9_laysFar 21 = .ok (.iastore, 1) := by decide +kernel
theorem dX9_laysFar_22 : decode cX9_laysFar 22 = .ok (.lload_n 3, 1) := by decide +kernel
theorem dX9_laysFar_23 : decode cX9_laysFar 23 = .ok (.aload_n 0, 1) := by decide +kernel
theorem dX9_laysFar_24 : decode cX9_laysFar 24 = .ok (.iload 5, 2) := by decide +kernel
theorem dX9_laysFar_26 : decode cX9_laysFar 26 = .ok (.invokevirtual 106, 3) := by decide +kernel
theorem dX9_laysFar_29 : decode cX9_laysFar 29 = .ok (.ifCond .eq 25, 3) := by decide +kernel
theorem dX9_laysFar_32 : decode cX9_laysFar 32 = .ok (.aload_n 0, 1) := by decide +kernel
theorem dX9_laysFar_33 : decode cX9_laysFar 33 = .ok (.getfield 7, 3) := by decide +kernel
theorem dX9_laysFar_36 : decode cX9_laysFar 36 = .ok (.iload 5, 2) := by decide +kernel
theorem dX9_laysFar_38 : decode cX9_laysFar 38 = .ok (.invokestatic 103, 3) := by decide +kernel
theorem dX9_laysFar_41 : decode cX9_laysFar 41 = .ok (.iconst 4, 1) := by decide +kernel
theorem dX9_laysFar_42 : decode cX9_laysFar 42 = .ok (.iadd, 1) := by decide +kernel
theorem dX9_laysFar_43 : decode cX9_laysFar 43 = .ok (.iaload, 1) := by decide +kernel
theorem dX9_laysFar_44 : decode cX9_laysFar 44 = .ok (.ifCond .eq 10, 3) := by decide +kernel
theorem dX9_laysFar_47 : decode cX9_laysFar 47 = .ok (.lconst 1, 1) := by decide +kernel
theorem dX9_laysFar_48 : decode cX9_laysFar 48 = .ok (.iload 5, 2) := by decide +kernel
theorem dX9_laysFar_50 : decode cX9_laysFar 50 = .ok (.lshl, 1) := by decide +kernel
theorem dX9_laysFar_51 : decode cX9_laysFar 51 = .ok (.goto 4, 3) := by decide +kernel
theorem dX9_laysFar_54 : decode cX9_laysFar 54 = .ok (.lconst 0, 1) := by decide +kernel
theorem dX9_laysFar_55 : decode cX9_laysFar 55 = .ok (.lor, 1) := by decide +kernel
theorem dX9_laysFar_56 : decode cX9_laysFar 56 = .ok (.lstore_n 3, 1) := by decide +kernel
theorem dX9_laysFar_57 : decode cX9_laysFar 57 = .ok (.iinc 5 1, 3) := by decide +kernel
theorem dX9_laysFar_60 : decode cX9_laysFar 60 = .ok (.goto (-53), 3) := by decide +kernel
theorem dX9_laysFar_63 : decode cX9_laysFar 63 = .ok (.iconst 0, 1) := by decide +kernel
theorem dX9_laysFar_64 : decode cX9_laysFar 64 = .ok (.istore 5, 2) := by decide +kernel
theorem dX9_laysFar_66 : decode cX9_laysFar 66 = .ok (.lload_n 3, 1) := by decide +kernel
theorem dX9_laysFar_67 : decode cX9_laysFar 67 = .ok (.lconst 0, 1) := by decide +kernel
theorem dX9_laysFar_68 : decode cX9_laysFar 68 = .ok (.lcmp, 1) := by decide +kernel
theorem dX9_laysFar_69 : decode cX9_laysFar 69 = .ok (.ifCond .eq 74, 3) := by decide +kernel
theorem dX9_laysFar_72 : decode cX9_laysFar 72 = .ok (.lload_n 1, 1) := by decide +kernel
theorem dX9_laysFar_73 : decode cX9_laysFar 73 = .ok (.lload_n 3, 1) := by decide +kernel
theorem dX9_laysFar_74 : decode cX9_laysFar 74 = .ok (.lor, 1) := by decide +kernel
theorem dX9_laysFar_75 : decode cX9_laysFar 75 = .ok (.lstore_n 1, 1) := by decide +kernel
theorem dX9_laysFar_76 : decode cX9_laysFar 76 = .ok (.lconst 0, 1) := by decide +kernel
theorem dX9_laysFar_77 : decode cX9_laysFar 77 = .ok (.lstore 6, 2) := by decide +kernel
theorem dX9_laysFar_79 : decode cX9_laysFar 79 = .ok (.iconst 0, 1) := by decide +kernel
theorem dX9_laysFar_80 : decode cX9_laysFar 80 = .ok (.istore 8, 2) := by decide +kernel
theorem dX9_laysFar_82 : decode cX9_laysFar 82 = .ok (.iload 8, 2) := by decide +kernel
theorem dX9_laysFar_84 : decode cX9_laysFar 84 = .ok (.bipush 40, 2) := by decide +kernel
theorem dX9_laysFar_86 : decode cX9_laysFar 86 = .ok (.if_icmp .ge 42, 3) := by decide +kernel
theorem dX9_laysFar_89 : decode cX9_laysFar 89 = .ok (.lload_n 3, 1) := by decide +kernel
theorem dX9_laysFar_90 : decode cX9_laysFar 90 = .ok (.iload 8, 2) := by decide +kernel
theorem dX9_laysFar_92 : decode cX9_laysFar 92 = .ok (.lshr, 1) := by decide +kernel
theorem dX9_laysFar_93 : decode cX9_laysFar 93 = .ok (.lconst 1, 1) := by decide +kernel
theorem dX9_laysFar_94 : decode cX9_laysFar 94 = .ok (.land, 1) := by decide +kernel
theorem dX9_laysFar_95 : decode cX9_laysFar 95 = .ok (.lconst 1, 1) := by decide +kernel
theorem dX9_laysFar_96 : decode cX9_laysFar 96 = .ok (.lcmp, 1) := by decide +kernel
theorem dX9_laysFar_97 : decode cX9_laysFar 97 = .ok (.ifCond .ne 25, 3) := by decide +kernel
theorem dX9_laysFar_100 : decode cX9_laysFar 100 = .ok (.aload_n 0, 1) := by decide +kernel
theorem dX9_laysFar_101 : decode cX9_laysFar 101 = .ok (.getfield 35, 3) := by decide +kernel
theorem dX9_laysFar_104 : decode cX9_laysFar 104 = .ok (.iload 8, 2) := by decide +kernel
theorem dX9_laysFar_106 : decode cX9_laysFar 106 = .ok (.iload 5, 2) := by decide +kernel
theorem dX9_laysFar_108 : decode cX9_laysFar 108 = .ok (.iastore, 1) := by decide +kernel
theorem dX9_laysFar_109 : decode cX9_laysFar 109 = .ok (.lload 6, 2) := by decide +kernel
theorem dX9_laysFar_111 : decode cX9_laysFar 111 = .ok (.aload_n 0, 1) := by decide +kernel
theorem dX9_laysFar_112 : decode cX9_laysFar 112 = .ok (.iload 8, 2) := by decide +kernel
theorem dX9_laysFar_114 : decode cX9_laysFar 114 = .ok (.iconst (-1), 1) := by decide +kernel
theorem dX9_laysFar_115 : decode cX9_laysFar 115 = .ok (.iconst (-1), 1) := by decide +kernel
theorem dX9_laysFar_116 : decode cX9_laysFar 116 = .ok (.invokevirtual 174, 3) := by decide +kernel
theorem dX9_laysFar_119 : decode cX9_laysFar 119 = .ok (.lor, 1) := by decide +kernel
theorem dX9_laysFar_120 : decode cX9_laysFar 120 = .ok (.lstore 6, 2) := by decide +kernel
theorem dX9_laysFar_122 : decode cX9_laysFar 122 = .ok (.iinc 8 1, 3) := by decide +kernel
theorem dX9_laysFar_125 : decode cX9_laysFar 125 = .ok (.goto (-43), 3) := by decide +kernel
theorem dX9_laysFar_128 : decode cX9_laysFar 128 = .ok (.lload 6, 2) := by decide +kernel
theorem dX9_laysFar_130 : decode cX9_laysFar 130 = .ok (.lload_n 1, 1) := by decide +kernel
theorem dX9_laysFar_131 : decode cX9_laysFar 131 = .ok (.ldc2_w 172, 3) := by decide +kernel
theorem dX9_laysFar_134 : decode cX9_laysFar 134 = .ok (.lxor, 1) := by decide +kernel
theorem dX9_laysFar_135 : decode cX9_laysFar 135 = .ok (.land, 1) := by decide +kernel
theorem dX9_laysFar_136 : decode cX9_laysFar 136 = .ok (.lstore_n 3, 1) := by decide +kernel
theorem dX9_laysFar_137 : decode cX9_laysFar 137 = .ok (.iinc 5 1, 3) := by decide +kernel
theorem dX9_laysFar_140 : decode cX9_laysFar 140 = .ok (.goto (-74), 3) := by decide +kernel
theorem dX9_laysFar_143 : decode cX9_laysFar 143 = .ok (.return_, 1) := by decide +kernel
theorem dX9_need_0 : decode cX9_need 0 = .ok (.iload_n 1, 1) := by decide +kernel
theorem dX9_need_1 : decode cX9_need 1 = .ok (.ifCond .eq 7, 3) := by decide +kernel
theorem dX9_need_4 : decode cX9_need 4 = .ok (.iconst 0, 1) := by decide +kernel
theorem dX9_need_5 : decode cX9_need 5 = .ok (.goto 4, 3) := by decide +kernel
theorem dX9_need_8 : decode cX9_need 8 = .ok (.iconst 1, 1) := by decide +kernel
theorem dX9_need_9 : decode cX9_need 9 = .ok (.ireturn, 1) := by decide +kernel
theorem dX9_distance_0 : decode cX9_distance 0 = .ok (.aload_n 0, 1) := by decide +kernel
theorem dX9_distance_1 : decode cX9_distance 1 = .ok (.aload_n 0, 1) := by decide +kernel
theorem dX9_distance_2 : decode cX9_distance 2 = .ok (.aload_n 0, 1) := by decide +kernel
theorem dX9_distance_3 : decode cX9_distance 3 = .ok (.iload_n 1, 1) := by decide +kernel
theorem dX9_distance_4 : decode cX9_distance 4 = .ok (.invokevirtual 106, 3) := by decide +kernel
theorem dX9_distance_7 : decode cX9_distance 7 = .ok (.invokevirtual 187, 3) := by decide +kernel
theorem dX9_distance_10 : decode cX9_distance 10 = .ok (.invokevirtual 74, 3) := by decide +kernel
theorem dX9_distance_13 : decode cX9_distance 13 = .ok (.ifCond .eq 5, 3) := by decide +kernel
theorem dX9_distance_16 : decode cX9_distance 16 = .ok (.iconst 0, 1) := by decide +kernel
theorem dX9_distance_17 : decode cX9_distance 17 = .ok (.ireturn, 1) := by decide +kernel
theorem dX9_distance_18 : decode cX9_distance 18 = .ok (.aload_n 0, 1) := by decide +kernel
theorem dX9_distance_19 : decode cX9_distance 19 = .ok (.invokevirtual 191, 3) := by decide +kernel
theorem dX9_distance_22 : decode cX9_distance 22 = .ok (.aload_n 0, 1) := by decide +kernel
theorem dX9_distance_23 : decode cX9_distance 23 = .ok (.getfield 35, 3) := by decide +kernel
theorem dX9_distance_26 : decode cX9_distance 26 = .ok (.iload_n 1, 1) := by decide +kernel
theorem dX9_distance_27 : decode cX9_distance 27 = .ok (.iaload, 1) := by decide +kernel
theorem dX9_distance_28 : decode cX9_distance 28 = .ok (.ireturn, 1) := by decide +kernel
theorem dX9_first_0 : decode cX9_first 0 = .ok (.iconst 0, 1) := by decide +kernel
theorem dX9_first_1 : decode cX9_first 1 = .ok (.istore_n 2, 1) := by decide +kernel
theorem dX9_first_2 : decode cX9_first 2 = .ok (.lload_n 0, 1) := by decide +kernel
theorem dX9_first_3 : decode cX9_first 3 = .ok (.iload_n 2, 1) := by decide +kernel
theorem dX9_first_4 : decode cX9_first 4 = .ok (.lshr, 1) := by decide +kernel
theorem dX9_first_5 : decode cX9_first 5 = .ok (.lconst 1, 1) := by decide +kernel
theorem dX9_first_6 : decode cX9_first 6 = .ok (.land, 1) := by decide +kernel
theorem dX9_first_7 : decode cX9_first 7 = .ok (.lconst 0, 1) := by decide +kernel
theorem dX9_first_8 : decode cX9_first 8 = .ok (.lcmp, 1) := by decide +kernel
theorem dX9_first_9 : decode cX9_first 9 = .ok (.ifCond .ne 9, 3) := by decide +kernel
theorem dX9_first_12 : decode cX9_first 12 = .ok (.iinc 2 1, 3) := by decide +kernel
theorem dX9_first_15 : decode cX9_first 15 = .ok (.goto (-13), 3) := by decide +kernel
theorem dX9_first_18 : decode cX9_first 18 = .ok (.iload_n 2, 1) := by decide +kernel
theorem dX9_first_19 : decode cX9_first 19 = .ok (.ireturn, 1) := by decide +kernel
theorem dX9_pathAt_0 : decode cX9_pathAt 0 = .ok (.aload_n 0, 1) := by decide +kernel
theorem dX9_pathAt_1 : decode cX9_pathAt 1 = .ok (.aload_n 0, 1) := by decide +kernel
theorem dX9_pathAt_2 : decode cX9_pathAt 2 = .ok (.aload_n 0, 1) := by decide +kernel
theorem dX9_pathAt_3 : decode cX9_pathAt 3 = .ok (.iload_n 1, 1) := by decide +kernel
theorem dX9_pathAt_4 : decode cX9_pathAt 4 = .ok (.invokevirtual 106, 3) := by decide +kernel
theorem dX9_pathAt_7 : decode cX9_pathAt 7 = .ok (.invokevirtual 187, 3) := by decide +kernel
theorem dX9_pathAt_10 : decode cX9_pathAt 10 = .ok (.invokevirtual 74, 3) := by decide +kernel
theorem dX9_pathAt_13 : decode cX9_pathAt 13 = .ok (.ifCond .eq 5, 3) := by decide +kernel
theorem dX9_pathAt_16 : decode cX9_pathAt 16 = .ok (.iconst 0, 1) := by decide +kernel
theorem dX9_pathAt_17 : decode cX9_pathAt 17 = .ok (.ireturn, 1) := by decide +kernel
theorem dX9_pathAt_18 : decode cX9_pathAt 18 = .ok (.aload_n 0, 1) := by decide +kernel
theorem dX9_pathAt_19 : decode cX9_pathAt 19 = .ok (.invokevirtual 191, 3) := by decide +kernel
theorem dX9_pathAt_22 : decode cX9_pathAt 22 = .ok (.aload_n 0, 1) := by decide +kernel
theorem dX9_pathAt_23 : decode cX9_pathAt 23 = .ok (.getfield 35, 3) := by decide +kernel
theorem dX9_pathAt_26 : decode cX9_pathAt 26 = .ok (.iload_n 1, 1) := by decide +kernel
theorem dX9_pathAt_27 : decode cX9_pathAt 27 = .ok (.iaload, 1) := by decide +kernel
theorem dX9_pathAt_28 : decode cX9_pathAt 28 = .ok (.iconst (-1), 1) := by decide +kernel
theorem dX9_pathAt_29 : decode cX9_pathAt 29 = .ok (.if_icmp .eq 17, 3) := by decide +kernel
theorem dX9_pathAt_32 : decode cX9_pathAt 32 = .ok (.iload_n 2, 1) := by decide +kernel
theorem dX9_pathAt_33 : decode cX9_pathAt 33 = .ok (.iconst 0, 1) := by decide +kernel
theorem dX9_pathAt_34 : decode cX9_pathAt 34 = .ok (.aload_n 0, 1) := by decide +kernel
theorem dX9_pathAt_35 : decode cX9_pathAt 35 = .ok (.getfield 35, 3) := by decide +kernel
theorem dX9_pathAt_38 : decode cX9_pathAt 38 = .ok (.iload_n 1, 1) := by decide +kernel
theorem dX9_pathAt_39 : decode cX9_pathAt 39 = .ok (.iaload, 1) := by decide +kernel
theorem dX9_pathAt_40 : decode cX9_pathAt 40 = .ok (.invokestatic 78, 3) := by decide +kernel
theorem dX9_pathAt_43 : decode cX9_pathAt 43 = .ok (.ifCond .ne 5, 3) := by decide +kernel
theorem dX9_pathAt_46 : decode cX9_pathAt 46 = .ok (.iconst (-1), 1) := by decide +kernel
theorem dX9_pathAt_47 : decode cX9_pathAt 47 = .ok (.ireturn, 1) := by decide +kernel
theorem dX9_pathAt_48 : decode cX9_pathAt 48 = .ok (.aload_n 0, 1) := by decide +kernel
theorem dX9_pathAt_49 : decode cX9_pathAt 49 = .ok (.getfield 38, 3) := by decide +kernel
theorem dX9_pathAt_52 : decode cX9_pathAt 52 = .ok (.aload_n 0, 1) := by decide +kernel
theorem dX9_pathAt_53 : decode cX9_pathAt 53 = .ok (.getfield 35, 3) := by decide +kernel
theorem dX9_pathAt_56 : decode cX9_pathAt 56 = .ok (.iload_n 1, 1) := by decide +kernel
theorem dX9_pathAt_57 : decode cX9_pathAt 57 = .ok (.iaload, 1) := by decide +kernel
theorem dX9_pathAt_58 : decode cX9_pathAt 58 = .ok (.lconst 1, 1) := by decide +kernel
theorem dX9_pathAt_59 : decode cX9_pathAt 59 = .ok (.iload_n 1, 1) := by decide +kernel
theorem dX9_pathAt_60 : decode cX9_pathAt 60 = .ok (.lshl, 1) := by decide +kernel
theorem dX9_pathAt_61 : decode cX9_pathAt 61 = .ok (.lastore, 1) := by decide +kernel
theorem dX9_pathAt_62 : decode cX9_pathAt 62 = .ok (.aload_n 0, 1) := by decide +kernel
theorem dX9_pathAt_63 : decode cX9_pathAt 63 = .ok (.getfield 35, 3) := by decide +kernel
theorem dX9_pathAt_66 : decode cX9_pathAt 66 = .ok (.iload_n 1, 1) := by decide +kernel
theorem dX9_pathAt_67 : decode cX9_pathAt 67 = .ok (.iaload, 1) := by decide +kernel
theorem dX9_pathAt_68 : decode cX9_pathAt 68 = .ok (.iconst 1, 1) := by decide +kernel
theorem dX9_pathAt_69 : decode cX9_pathAt 69 = .ok (.isub, 1) := by decide +kernel
theorem dX9_pathAt_70 : decode cX9_pathAt 70 = .ok (.istore_n 3, 1) := by decide +kernel
theorem dX9_pathAt_71 : decode cX9_pathAt 71 = .ok (.iload_n 3, 1) := by decide +kernel
theorem dX9_pathAt_72 : decode cX9_pathAt 72 = .ok (.ifCond .lt 87, 3) := by decide +kernel
theorem dX9_pathAt_75 : decode cX9_pathAt 75 = .ok (.aload_n 0, 1) := by decide +kernel
theorem dX9_pathAt_76 : decode cX9_pathAt 76 = .ok (.getfield 38, 3) := by decide +kernel
theorem dX9_pathAt_79 : decode cX9_pathAt 79 = .ok (.iload_n 3, 1) := by decide +kernel
theorem dX9_pathAt_80 : decode cX9_pathAt 80 = .ok (.lconst 0, 1) := by decide +kernel
theorem dX9_pathAt_81 : decode cX9_pathAt 81 = .ok (.lastore, 1) := by decide +kernel
theorem dX9_pathAt_82 : decode cX9_pathAt 82 = .ok (.iconst 0, 1) := by decide +kernel
theorem dX9_pathAt_83 : decode cX9_pathAt 83 = .ok (.istore 4, 2) := by decide +kernel
theorem dX9_pathAt_85 : decode cX9_pathAt 85 = .ok (.iload 4, 2) := by decide +kernel
theorem dX9_pathAt_87 : decode cX9_pathAt 87 = .ok (.bipush 40, 2) := by decide +kernel
theorem dX9_pathAt_89 : decode cX9_pathAt 89 = .ok (.if_icmp .ge 64, 3) := by decide +kernel
theorem dX9_pathAt_92 : decode cX9_pathAt 92 = .ok (.aload_n 0, 1) := by decide +kernel
theorem dX9_pathAt_93 : decode cX9_pathAt 93 = .ok (.iload 4, 2) := by decide +kernel
theorem dX9_pathAt_95 : decode cX9_pathAt 95 = .ok (.invokevirtual 106, 3) := by decide +kernel
theorem dX9_pathAt_98 : decode cX9_pathAt 98 = .ok (.ifCond .eq 49, 3) := by decide +kernel
theorem dX9_pathAt_101 : decode cX9_pathAt 101 = .ok (.aload_n 0, 1) := by decide +kernel
theorem dX9_pathAt_102 : decode cX9_pathAt 102 = .ok (.getfield 35, 3) := by decide +kernel
theorem dX9_pathAt_105 : decode cX9_pathAt 105 = .ok (.iload 4, 2) := by decide +kernel
theorem dX9_pathAt_107 : decode cX9_pathAt 107 = .ok (.iaload, 1) := by decide +kernel
theorem dX9_pathAt_108 : decode cX9_pathAt 108 = .ok (.iload_n 3, 1) := by decide +kernel
theorem dX9_pathAt_109 : decode cX9_pathAt 109 = .ok (.if_icmp .ne 38, 3) := by decide +kernel
theorem dX9_pathAt_112 : decode cX9_pathAt 112 = .ok (.aload_n 0, 1) := by decide +kernel
theorem dX9_pathAt_113 : decode cX9_pathAt 113 = .ok (.iload 4, 2) := by decide +kernel
theorem dX9_pathAt_115 : decode cX9_pathAt 115 = .ok (.iconst (-1), 1) := by decide +kernel
theorem dX9_pathAt_116 : decode cX9_pathAt 116 = .ok (.iconst (-1), 1) := by decide +kernel
theorem dX9_pathAt_117 : decode cX9_pathAt 117 = .ok (.invokevirtual 174, 3) := by decide +kernel
theorem dX9_pathAt_120 : decode cX9_pathAt 120 = .ok (.aload_n 0, 1) := by decide +kernel
theorem dX9_pathAt_121 : decode cX9_pathAt 121 = .ok (.getfield 38, 3) := by decide +kernel
theorem dX9_pathAt_124 : decode cX9_pathAt 124 = .ok (.iload_n 3, 1) := by decide +kernel
theorem dX9_pathAt_125 : decode cX9_pathAt 125 = .ok (.iconst 1, 1) := by decide +kernel
theorem dX9_pathAt_126 : decode cX9_pathAt 126 = .ok (.iadd, 1) := by decide +kernel
theorem dX9_pathAt_127 : decode cX9_pathAt 127 = .ok (.laload, 1) := by decide +kernel
theorem dX9_pathAt_128 : decode cX9_pathAt 128 = .ok (.land, 1) := by decide +kernel
theorem dX9_pathAt_129 : decode cX9_pathAt 129 = .ok (.lconst 0, 1) := by decide +kernel
theorem dX9_pathAt_130 : decode cX9_pathAt 130 = .ok (.lcmp, 1) := by decide +kernel
theorem dX9_pathAt_131 : decode cX9_pathAt 131 = .ok (.ifCond .eq 16, 3) := by decide +kernel
theorem dX9_pathAt_134 : decode cX9_pathAt 134 = .ok (.aload_n 0, 1) := by decide +kernel
theorem dX9_pathAt_135 : decode cX9_pathAt 135 = .ok (.getfield 38, 3) := by decide +kernel
theorem dX9_pathAt_138 : decode cX9_pathAt 138 = .ok (.iload_n 3, 1) := by decide +kernel
theorem dX9_pathAt_139 : decode cX9_pathAt 139 = .ok (.dup2, 1) := by decide +kernel
theorem dX9_pathAt_140 : decode cX9_pathAt 140 = .ok (.laload, 1) := by decide +kernel
theorem dX9_pathAt_141 : decode cX9_pathAt 141 = .ok (.lconst 1, 1) := by decide +kernel
theorem dX9_pathAt_142 : decode cX9_pathAt 142 = .ok (.iload 4, 2) := by decide +kernel
theorem dX9_pathAt_144 : decode cX9_pathAt 144 = .ok (.lshl, 1) := by decide +kernel
theorem dX9_pathAt_145 : decode cX9_pathAt 145 = .ok (.lor, 1) := by decide +kernel
theorem dX9_pathAt_146 : decode cX9_pathAt 146 = .ok (.lastore, 1) := by decide +kernel
theorem dX9_pathAt_147 : decode cX9_pathAt 147 = .ok (.iinc 4 1, 3) := by decide +kernel
theorem dX9_pathAt_150 : decode cX9_pathAt 150 = .ok (.goto (-65), 3) := by decide +kernel
theorem dX9_pathAt_153 : decode cX9_pathAt 153 = .ok (.iinc 3 (-1), 3) := by decide +kernel
theorem dX9_pathAt_156 : decode cX9_pathAt 156 = .ok (.goto (-85), 3) := by decide +kernel
theorem dX9_pathAt_159 : decode cX9_pathAt 159 = .ok (.aload_n 0, 1) := by decide +kernel
theorem dX9_pathAt_160 : decode cX9_pathAt 160 = .ok (.getfield 38, 3) := by decide +kernel
theorem dX9_pathAt_163 : decode cX9_pathAt 163 = .ok (.iconst 0, 1) := by decide +kernel
theorem dX9_pathAt_164 : decode cX9_pathAt 164 = .ok (.laload, 1) := by decide +kernel
theorem dX9_pathAt_165 : decode cX9_pathAt 165 = .ok (.invokestatic 194, 3) := by decide +kernel
theorem dX9_pathAt_168 : decode cX9_pathAt 168 = .ok (.istore_n 3, 1) := by decide +kernel
theorem dX9_pathAt_169 : decode cX9_pathAt 169 = .ok (.iconst 1, 1) := by decide +kernel
theorem dX9_pathAt_170 : decode cX9_pathAt 170 = .ok (.istore 4, 2) := by decide +kernel
theorem dX9_pathAt_172 : decode cX9_pathAt 172 = .ok (.iload 4, 2) := by decide +kernel
theorem dX9_pathAt_174 : decode cX9_pathAt 174 = .ok (.iload_n 2, 1) := by decide +kernel
theorem dX9_pathAt_175 : decode cX9_pathAt 175 = .ok (.if_icmp .gt 28, 3) := by decide +kernel
theorem dX9_pathAt_178 : decode cX9_pathAt 178 = .ok (.aload_n 0, 1) := by decide +kernel
theorem dX9_pathAt_179 : decode cX9_pathAt 179 = .ok (.iload_n 3, 1) := by decide +kernel
theorem dX9_pathAt_180 : decode cX9_pathAt 180 = .ok (.iconst (-1), 1) := by decide +kernel
theorem dX9_pathAt_181 : decode cX9_pathAt 181 = .ok (.iconst (-1), 1) := by decide +kernel
theorem dX9_pathAt_182 : decode cX9_pathAt 182 = .ok (.invokevirtual 174, 3) := by decide +kernel
theorem dX9_pathAt_185 : decode cX9_pathAt 185 = .ok (.aload_n 0, 1) := by decide +kernel
theorem dX9_pathAt_186 : decode cX9_pathAt 186 = .ok (.getfield 38, 3) := by decide +kernel
theorem dX9_pathAt_189 : decode cX9_pathAt 189 = .ok (.iload 4, 2) := by decide +kernel
theorem dX9_pathAt_191 : decode cX9_pathAt 191 = .ok (.laload, 1) := by decide +kernel
theorem dX9_pathAt_192 : decode cX9_pathAt 192 = .ok (.land, 1) := by decide +kernel
theorem dX9_pathAt_193 : decode cX9_pathAt 193 = .ok (.invokestatic 194, 3) := by decide +kernel
theorem dX9_pathAt_196 : decode cX9_pathAt 196 = .ok (.istore_n 3, 1) := by decide +kernel
theorem dX9_pathAt_197 : decode cX9_pathAt 197 = .ok (.iinc 4 1, 3) := by decide +kernel
theorem dX9_pathAt_200 : decode cX9_pathAt 200 = .ok (.goto (-28), 3) := by decide +kernel
theorem dX9_pathAt_203 : decode cX9_pathAt 203 = .ok (.iload_n 3, 1) := by decide +kernel
theorem dX9_pathAt_204 : decode cX9_pathAt 204 = .ok (.ireturn, 1) := by decide +kernel
theorem dX9_dominates_0 : decode cX9_dominates 0 = .ok (.aload_n 0, 1) := by decide +kernel
theorem dX9_dominates_1 : decode cX9_dominates 1 = .ok (.aload_n 0, 1) := by decide +kernel
theorem dX9_dominates_2 : decode cX9_dominates 2 = .ok (.aload_n 0, 1) := by decide +kernel
theorem dX9_dominates_3 : decode cX9_dominates 3 = .ok (.iload_n 1, 1) := by decide +kernel
theorem dX9_dominates_4 : decode cX9_dominates 4 = .ok (.invokevirtual 106, 3) := by decide +kernel
theorem dX9_dominates_7 : decode cX9_dominates 7 = .ok (.ifCond .eq 15, 3) := by decide +kernel
theorem dX9_dominates_10 : decode cX9_dominates 10 = .ok (.aload_n 0, 1) := by decide +kernel
theorem dX9_dominates_11 : decode cX9_dominates 11 = .ok (.iload_n 2, 1) := by decide +kernel
theorem dX9_dominates_12 : decode cX9_dominates 12 = .ok (.invokevirtual 106, 3) := by decide +kernel
theorem dX9_dominates_15 : decode cX9_dominates 15 = .ok (.ifCond .eq 7, 3) := by decide +kernel
theorem dX9_dominates_18 : decode cX9_dominates 18 = .ok (.iconst 1, 1) := by decide +kernel
theorem dX9_dominates_19 : decode cX9_dominates 19 = .ok (.goto 4, 3) := by decide +kernel
theorem dX9_dominates_22 : decode cX9_dominates 22 = .ok (.iconst 0, 1) := by decide +kernel
theorem dX9_dominates_23 : decode cX9_dominates 23 = .ok (.invokevirtual 187, 3) := by decide +kernel
theorem dX9_dominates_26 : decode cX9_dominates 26 = .ok (.invokevirtual 74, 3) := by decide +kernel
theorem dX9_dominates_29 : decode cX9_dominates 29 = .ok (.ifCond .eq 5, 3) := by decide +kernel
theorem dX9_dominates_32 : decode cX9_dominates 32 = .ok (.iconst 0, 1) := by decide +kernel
theorem dX9_dominates_33 : decode cX9_dominates 33 = .ok (.ireturn, 1) := by decide +kernel
theorem dX9_dominates_34 : decode cX9_dominates 34 = .ok (.aload_n 0, 1) := by decide +kernel
theorem dX9_dominates_35 : decode cX9_dominates 35 = .ok (.invokevirtual 198, 3) := by decide +kernel
theorem dX9_dominates_38 : decode cX9_dominates 38 = .ok (.aload_n 0, 1) := by decide +kernel
theorem dX9_dominates_39 : decode cX9_dominates 39 = .ok (.getfield 31, 3) := by decide +kernel
theorem dX9_dominates_42 : decode cX9_dominates 42 = .ok (.iload_n 1, 1) := by decide +kernel
theorem dX9_dominates_43 : decode cX9_dominates 43 = .ok (.laload, 1) := by decide +kernel
theorem dX9_dominates_44 : decode cX9_dominates 44 = .ok (.iload_n 2, 1) := by decide +kernel
theorem dX9_dominates_45 : decode cX9_dominates 45 = .ok (.lshr, 1) := by decide +kernel
theorem dX9_dominates_46 : decode cX9_dominates 46 = .ok (.lconst 1, 1) := by decide +kernel
theorem dX9_dominates_47 : decode cX9_dominates 47 = .ok (.land, 1) := by decide +kernel
theorem dX9_dominates_48 : decode cX9_dominates 48 = .ok (.lconst 1, 1) := by decide +kernel
theorem dX9_dominates_49 : decode cX9_dominates 49 = .ok (.lcmp, 1) := by decide +kernel
theorem dX9_dominates_50 : decode cX9_dominates 50 = .ok (.ifCond .ne 7, 3) := by decide +kernel
theorem dX9_dominates_53 : decode cX9_dominates 53 = .ok (.iconst 1, 1) := by decide +kernel
theorem dX9_dominates_54 : decode cX9_dominates 54 = .ok (.goto 4, 3) := by decide +kernel
theorem dX9_dominates_57 : decode cX9_dominates 57 = .ok (.iconst 0, 1) := by decide +kernel
theorem dX9_dominates_58 : decode cX9_dominates 58 = .ok (.ireturn, 1) := by decide +kernel
theorem dX9_dominator_0 : decode cX9_dominator 0 = .ok (.aload_n 0, 1) := by decide +kernel
theorem dX9_dominator_1 : decode cX9_dominator 1 = .ok (.aload_n 0, 1) := by decide +kernel
theorem dX9_dominator_2 : decode cX9_dominator 2 = .ok (.aload_n 0, 1) := by decide +kernel
theorem dX9_dominator_3 : decode cX9_dominator 3 = .ok (.iload_n 1, 1) := by decide +kernel
theorem dX9_dominator_4 : decode cX9_dominator 4 = .ok (.invokevirtual 106, 3) := by decide +kernel
theorem dX9_dominator_7 : decode cX9_dominator 7 = .ok (.invokevirtual 187, 3) := by decide +kernel
theorem dX9_dominator_10 : decode cX9_dominator 10 = .ok (.invokevirtual 74, 3) := by decide +kernel
theorem dX9_dominator_13 : decode cX9_dominator 13 = .ok (.ifCond .eq 5, 3) := by decide +kernel
theorem dX9_dominator_16 : decode cX9_dominator 16 = .ok (.iconst 0, 1) := by decide +kernel
theorem dX9_dominator_17 : decode cX9_dominator 17 = .ok (.ireturn, 1) := by decide +kernel
theorem dX9_dominator_18 : decode cX9_dominator 18 = .ok (.aload_n 0, 1) := by decide +kernel
theorem dX9_dominator_19 : decode cX9_dominator 19 = .ok (.invokevirtual 198, 3) := by decide +kernel
theorem dX9_dominator_22 : decode cX9_dominator 22 = .ok (.aload_n 0, 1) := by decide +kernel
theorem dX9_dominator_23 : decode cX9_dominator 23 = .ok (.iload_n 1, 1) := by decide +kernel
theorem dX9_dominator_24 : decode cX9_dominator 24 = .ok (.invokevirtual 201, 3) := by decide +kernel
theorem dX9_dominator_27 : decode cX9_dominator 27 = .ok (.ireturn, 1) := by decide +kernel
theorem dX9_depth_0 : decode cX9_depth 0 = .ok (.aload_n 0, 1) := by decide +kernel
theorem dX9_depth_1 : decode cX9_depth 1 = .ok (.aload_n 0, 1) := by decide +kernel
theorem dX9_depth_2 : decode cX9_depth 2 = .ok (.aload_n 0, 1) := by decide +kernel
theorem dX9_depth_3 : decode cX9_depth 3 = .ok (.iload_n 1, 1) := by decide +kernel
theorem dX9_depth_4 : decode cX9_depth 4 = .ok (.invokevirtual 106, 3) := by decide +kernel
theorem dX9_depth_7 : decode cX9_depth 7 = .ok (.invokevirtual 187, 3) := by decide +kernel
theorem dX9_depth_10 : decode cX9_depth 10 = .ok (.invokevirtual 74, 3) := by decide +kernel
theorem dX9_depth_13 : decode cX9_depth 13 = .ok (.ifCond .eq 5, 3) := by decide +kernel
theorem dX9_depth_16 : decode cX9_depth 16 = .ok (.iconst 0, 1) := by decide +kernel
theorem dX9_depth_17 : decode cX9_depth 17 = .ok (.ireturn, 1) := by decide +kernel
theorem dX9_depth_18 : decode cX9_depth 18 = .ok (.aload_n 0, 1) := by decide +kernel
theorem dX9_depth_19 : decode cX9_depth 19 = .ok (.invokevirtual 198, 3) := by decide +kernel
theorem dX9_depth_22 : decode cX9_depth 22 = .ok (.aload_n 0, 1) := by decide +kernel
theorem dX9_depth_23 : decode cX9_depth 23 = .ok (.iload_n 1, 1) := by decide +kernel
theorem dX9_depth_24 : decode cX9_depth 24 = .ok (.invokevirtual 181, 3) := by decide +kernel
theorem dX9_depth_27 : decode cX9_depth 27 = .ok (.ifCond .eq 11, 3) := by decide +kernel
theorem dX9_depth_30 : decode cX9_depth 30 = .ok (.aload_n 0, 1) := by decide +kernel
theorem dX9_depth_31 : decode cX9_depth 31 = .ok (.iload_n 1, 1) := by decide +kernel
theorem dX9_depth_32 : decode cX9_depth 32 = .ok (.invokevirtual 184, 3) := by decide +kernel
theorem dX9_depth_35 : decode cX9_depth 35 = .ok (.goto 4, 3) := by decide +kernel
theorem dX9_depth_38 : decode cX9_depth 38 = .ok (.iconst (-1), 1) := by decide +kernel
theorem dX9_depth_39 : decode cX9_depth 39 = .ok (.ireturn, 1) := by decide +kernel
theorem dX9_dominatedAt_0 : decode cX9_dominatedAt 0 = .ok (.aload_n 0, 1) := by decide +kernel
theorem dX9_dominatedAt_1 : decode cX9_dominatedAt 1 = .ok (.aload_n 0, 1) := by decide +kernel
theorem dX9_dominatedAt_2 : decode cX9_dominatedAt 2 = .ok (.iload_n 1, 1) := by decide +kernel
theorem dX9_dominatedAt_3 : decode cX9_dominatedAt 3 = .ok (.iconst (-1), 1) := by decide +kernel
theorem dX9_dominatedAt_4 : decode cX9_dominatedAt 4 = .ok (.if_icmp .eq 11, 3) := by decide +kernel
theorem dX9_dominatedAt_7 : decode cX9_dominatedAt 7 = .ok (.aload_n 0, 1) := by decide +kernel
theorem dX9_dominatedAt_8 : decode cX9_dominatedAt 8 = .ok (.iload_n 1, 1) := by decide +kernel
theorem dX9_dominatedAt_9 : decode cX9_dominatedAt 9 = .ok (.invokevirtual 106, 3) := by decide +kernel
theorem dX9_dominatedAt_12 : decode cX9_dominatedAt 12 = .ok (.ifCond .eq 7, 3) := by decide +kernel
theorem dX9_dominatedAt_15 : decode cX9_dominatedAt 15 = .ok (.iconst 1, 1) := by decide +kernel
theorem dX9_dominatedAt_16 : decode cX9_dominatedAt 16 = .ok (.goto 4, 3) := by decide +kernel
theorem dX9_dominatedAt_19 : decode cX9_dominatedAt 19 = .ok (.iconst 0, 1) := by decide +kernel
theorem dX9_dominatedAt_20 : decode cX9_dominatedAt 20 = .ok (.invokevirtual 187, 3) := by decide +kernel
theorem dX9_dominatedAt_23 : decode cX9_dominatedAt 23 = .ok (.invokevirtual 74, 3) := by decide +kernel
theorem dX9_dominatedAt_26 : decode cX9_dominatedAt 26 = .ok (.ifCond .eq 5, 3) := by decide +kernel
theorem dX9_dominatedAt_29 : decode cX9_dominatedAt 29 = .ok (.iconst 0, 1) := by decide +kernel
theorem dX9_dominatedAt_30 : decode cX9_dominatedAt 30 = .ok (.ireturn, 1) := by decide +kernel
theorem dX9_dominatedAt_31 : decode cX9_dominatedAt 31 = .ok (.aload_n 0, 1) := by decide +kernel
theorem dX9_dominatedAt_32 : decode cX9_dominatedAt 32 = .ok (.invokevirtual 198, 3) := by decide +kernel
theorem dX9_dominatedAt_35 : decode cX9_dominatedAt 35 = .ok (.iconst 0, 1) := by decide +kernel
theorem dX9_dominatedAt_36 : decode cX9_dominatedAt 36 = .ok (.istore_n 3, 1) := by decide +kernel
theorem dX9_dominatedAt_37 : decode cX9_dominatedAt 37 = .ok (.iconst 0, 1) := by decide +kernel
theorem dX9_dominatedAt_38 : decode cX9_dominatedAt 38 = .ok (.istore 4, 2) := by decide +kernel
theorem dX9_dominatedAt_40 : decode cX9_dominatedAt 40 = .ok (.iload 4, 2) := by decide +kernel
theorem dX9_dominatedAt_42 : decode cX9_dominatedAt 42 = .ok (.bipush 40, 2) := by decide +kernel
theorem dX9_dominatedAt_44 : decode cX9_dominatedAt 44 = .ok (.if_icmp .ge 39, 3) := by decide +kernel
theorem dX9_dominatedAt_47 : decode cX9_dominatedAt 47 = .ok (.aload_n 0, 1) := by decide +kernel
theorem dX9_dominatedAt_48 : decode cX9_dominatedAt 48 = .ok (.iload 4, 2) := by decide +kernel
theorem dX9_dominatedAt_50 : decode cX9_dominatedAt 50 = .ok (.invokevirtual 181, 3) := by decide +kernel
theorem dX9_dominatedAt_53 : decode cX9_dominatedAt 53 = .ok (.ifCond .eq 24, 3) := by decide +kernel
theorem dX9_dominatedAt_56 : decode cX9_dominatedAt 56 = .ok (.aload_n 0, 1) := by decide +kernel
theorem dX9_dominatedAt_57 : decode cX9_dominatedAt 57 = .ok (.iload 4, 2) := by decide +kernel
theorem dX9_dominatedAt_59 : decode cX9_dominatedAt 59 = .ok (.invokevirtual 201, 3) := by decide +kernel
theorem dX9_dominatedAt_62 : decode cX9_dominatedAt 62 = .ok (.iload_n 1, 1) := by decide +kernel
theorem dX9_dominatedAt_63 : decode cX9_dominatedAt 63 = .ok (.if_icmp .ne 14, 3) := by decide +kernel
theorem dX9_dominatedAt_66 : decode cX9_dominatedAt 66 = .ok (.iload_n 3, 1) := by decide +kernel
theorem dX9_dominatedAt_67 : decode cX9_dominatedAt 67 = .ok (.iload_n 2, 1) := by decide +kernel
theorem dX9_dominatedAt_68 : decode cX9_dominatedAt 68 = .ok (.if_icmp .ne 6, 3) := by decide +kernel
theorem dX9_dominatedAt_71 : decode cX9_dominatedAt 71 = .ok (.iload 4, 2) := by decide +kernel
theorem dX9_dominatedAt_73 : decode cX9_dominatedAt 73 = .ok (.ireturn, 1) := by decide +kernel
theorem dX9_dominatedAt_74 : decode cX9_dominatedAt 74 = .ok (.iinc 3 1, 3) := by decide +kernel
theorem dX9_dominatedAt_77 : decode cX9_dominatedAt 77 = .ok (.iinc 4 1, 3) := by decide +kernel
theorem dX9_dominatedAt_80 : decode cX9_dominatedAt 80 = .ok (.goto (-40), 3) := by decide +kernel
theorem dX9_dominatedAt_83 : decode cX9_dominatedAt 83 = .ok (.iconst (-1), 1) := by decide +kernel
theorem dX9_dominatedAt_84 : decode cX9_dominatedAt 84 = .ok (.ireturn, 1) := by decide +kernel
theorem dX9_retainedBy_0 : decode cX9_retainedBy 0 = .ok (.aload_n 0, 1) := by decide +kernel
theorem dX9_retainedBy_1 : decode cX9_retainedBy 1 = .ok (.aload_n 0, 1) := by decide +kernel
theorem dX9_retainedBy_2 : decode cX9_retainedBy 2 = .ok (.getfield 31, 3) := by decide +kernel
theorem dX9_retainedBy_5 : decode cX9_retainedBy 5 = .ok (.iload_n 1, 1) := by decide +kernel
theorem dX9_retainedBy_6 : decode cX9_retainedBy 6 = .ok (.laload, 1) := by decide +kernel
theorem dX9_retainedBy_7 : decode cX9_retainedBy 7 = .ok (.invokevirtual 204, 3) := by decide +kernel
theorem dX9_retainedBy_10 : decode cX9_retainedBy 10 = .ok (.l2i, 1) := by decide +kernel
theorem dX9_retainedBy_11 : decode cX9_retainedBy 11 = .ok (.ireturn, 1) := by decide +kernel
theorem dX9_retainedSize_0 : decode cX9_retainedSize 0 = .ok (.aload_n 0, 1) := by decide +kernel
theorem dX9_retainedSize_1 : decode cX9_retainedSize 1 = .ok (.aload_n 0, 1) := by decide +kernel
theorem dX9_retainedSize_2 : decode cX9_retainedSize 2 = .ok (.aload_n 0, 1) := by decide +kernel
theorem dX9_retainedSize_3 : decode cX9_retainedSize 3 = .ok (.iload_n 1, 1) := by decide +kernel
theorem dX9_retainedSize_4 : decode cX9_retainedSize 4 = .ok (.invokevirtual 106, 3) := by decide +kernel
theorem dX9_retainedSize_7 : decode cX9_retainedSize 7 = .ok (.invokevirtual 187, 3) := by decide +kernel
theorem dX9_retainedSize_10 : decode cX9_retainedSize 10 = .ok (.invokevirtual 74, 3) := by decide +kernel
theorem dX9_retainedSize_13 : decode cX9_retainedSize 13 = .ok (.ifCond .eq 5, 3) := by decide +kernel
theorem dX9_retainedSize_16 : decode cX9_retainedSize 16 = .ok (.iconst 0, 1) := by decide +kernel
theorem dX9_retainedSize_17 : decode cX9_retainedSize 17 = .ok (.ireturn, 1) := by decide +kernel
theorem dX9_retainedSize_18 : decode cX9_retainedSize 18 = .ok (.aload_n 0, 1) := by decide +kernel
theorem dX9_retainedSize_19 : decode cX9_retainedSize 19 = .ok (.invokevirtual 198, 3) := by decide +kernel
theorem dX9_retainedSize_22 : decode cX9_retainedSize 22 = .ok (.aload_n 0, 1) := by decide +kernel
theorem dX9_retainedSize_23 : decode cX9_retainedSize 23 = .ok (.iload_n 1, 1) := by decide +kernel
theorem dX9_retainedSize_24 : decode cX9_retainedSize 24 = .ok (.invokevirtual 208, 3) := by decide +kernel
theorem dX9_retainedSize_27 : decode cX9_retainedSize 27 = .ok (.ireturn, 1) := by decide +kernel
theorem dX9_bits_0 : decode cX9_bits 0 = .ok (.iconst 0, 1) := by decide +kernel
theorem dX9_bits_1 : decode cX9_bits 1 = .ok (.istore_n 2, 1) := by decide +kernel
theorem dX9_bits_2 : decode cX9_bits 2 = .ok (.iconst 0, 1) := by decide +kernel
theorem dX9_bits_3 : decode cX9_bits 3 = .ok (.istore_n 3, 1) := by decide +kernel
theorem dX9_bits_4 : decode cX9_bits 4 = .ok (.iload_n 3, 1) := by decide +kernel
theorem dX9_bits_5 : decode cX9_bits 5 = .ok (.bipush 40, 2) := by decide +kernel
theorem dX9_bits_7 : decode cX9_bits 7 = .ok (.if_icmp .ge 18, 3) := by decide +kernel
theorem dX9_bits_10 : decode cX9_bits 10 = .ok (.iload_n 2, 1) := by decide +kernel
theorem dX9_bits_11 : decode cX9_bits 11 = .ok (.lload_n 0, 1) := by decide +kernel
theorem dX9_bits_12 : decode cX9_bits 12 = .ok (.iload_n 3, 1) := by decide +kernel
theorem dX9_bits_13 : decode cX9_bits 13 = .ok (.lshr, 1) := by decide +kernel
theorem dX9_bits_14 : decode cX9_bits 14 = .ok (.lconst 1, 1) := by decide +kernel
theorem dX9_bits_15 : decode cX9_bits 15 = .ok (.land, 1) := by decide +kernel
theorem dX9_bits_16 : decode cX9_bits 16 = .ok (.l2i, 1) := by decide +kernel
theorem dX9_bits_17 : decode cX9_bits 17 = .ok (.iadd, 1) := by decide +kernel
theorem dX9_bits_18 : decode cX9_bits 18 = .ok (.istore_n 2, 1) := by decide +kernel
theorem dX9_bits_19 : decode cX9_bits 19 = .ok (.iinc 3 1, 3) := by decide +kernel
theorem dX9_bits_22 : decode cX9_bits 22 = .ok (.goto (-18), 3) := by decide +kernel
theorem dX9_bits_25 : decode cX9_bits 25 = .ok (.iload_n 2, 1) := by decide +kernel
theorem dX9_bits_26 : decode cX9_bits 26 = .ok (.ireturn, 1) := by decide +kernel
theorem dX9_retainedObjects_0 : decode cX9_retainedObjects 0 = .ok (.aload_n 0, 1) := by decide +kernel
theorem dX9_retainedObjects_1 : decode cX9_retainedObjects 1 = .ok (.aload_n 0, 1) := by decide +kernel
theorem dX9_retainedObjects_2 : decode cX9_retainedObjects 2 = .ok (.aload_n 0, 1) := by decide +kernel
theorem dX9_retainedObjects_3 : decode cX9_retainedObjects 3 = .ok (.iload_n 1, 1) := by decide +kernel
theorem dX9_retainedObjects_4 : decode cX9_retainedObjects 4 = .ok (.invokevirtual 106, 3) := by decide +kernel
theorem dX9_retainedObjects_7 : decode cX9_retainedObjects 7 = .ok (.invokevirtual 187, 3) := by decide +kernel
theorem dX9_retainedObjects_10 : decode cX9_retainedObjects 10 = .ok (.invokevirtual 74, 3) := by decide +kernel
theorem dX9_retainedObjects_13 : decode cX9_retainedObjects 13 = .ok (.ifCond .eq 5, 3) := by decide +kernel
theorem dX9_retainedObjects_16 : decode cX9_retainedObjects 16 = .ok (.iconst 0, 1) := by decide +kernel
theorem dX9_retainedObjects_17 : decode cX9_retainedObjects 17 = .ok (.ireturn, 1) := by decide +kernel
theorem dX9_retainedObjects_18 : decode cX9_retainedObjects 18 = .ok (.aload_n 0, 1) := by decide +kernel
theorem dX9_retainedObjects_19 : decode cX9_retainedObjects 19 = .ok (.invokevirtual 198, 3) := by decide +kernel
theorem dX9_retainedObjects_22 : decode cX9_retainedObjects 22 = .ok (.aload_n 0, 1) := by decide +kernel
theorem dX9_retainedObjects_23 : decode cX9_retainedObjects 23 = .ok (.getfield 31, 3) := by decide +kernel
theorem dX9_retainedObjects_26 : decode cX9_retainedObjects 26 = .ok (.iload_n 1, 1) := by decide +kernel
theorem dX9_retainedObjects_27 : decode cX9_retainedObjects 27 = .ok (.laload, 1) := by decide +kernel
theorem dX9_retainedObjects_28 : decode cX9_retainedObjects 28 = .ok (.invokestatic 211, 3) := by decide +kernel
theorem dX9_retainedObjects_31 : decode cX9_retainedObjects 31 = .ok (.ireturn, 1) := by decide +kernel
theorem dX9_laysLeads_0 : decode cX9_laysLeads 0 = .ok (.iconst 0, 1) := by decide +kernel
theorem dX9_laysLeads_1 : decode cX9_laysLeads 1 = .ok (.istore_n 1, 1) := by decide +kernel
theorem dX9_laysLeads_2 : decode cX9_laysLeads 2 = .ok (.iload_n 1, 1) := by decide +kernel
theorem dX9_laysLeads_3 : decode cX9_laysLeads 3 = .ok (.bipush 40, 2) := by decide +kernel
theorem dX9_laysLeads_5 : decode cX9_laysLeads 5 = .ok (.if_icmp .ge 38, 3) := by decide +kernel
theorem dX9_laysLeads_8 : decode cX9_laysLeads 8 = .ok (.aload_n 0, 1) := by decide +kernel
theorem dX9_laysLeads_9 : decode cX9_laysLeads 9 = .ok (.getfield 41, 3) := by decide +kernel
theorem dX9_laysLeads_12 : decode cX9_laysLeads 12 = .ok (.iload_n 1, 1) := by decide +kernel
theorem dX9_laysLeads_13 : decode cX9_laysLeads 13 = .ok (.aload_n 0, 1) := by decide +kernel
theorem dX9_laysLeads_14 : decode cX9_laysLeads 14 = .ok (.iload_n 1, 1) := by decide +kernel
theorem dX9_laysLeads_15 : decode cX9_laysLeads 15 = .ok (.invokevirtual 106, 3) := by decide +kernel
theorem dX9_laysLeads_18 : decode cX9_laysLeads 18 = .ok (.ifCond .eq 17, 3) := by decide +kernel
theorem dX9_laysLeads_21 : decode cX9_laysLeads 21 = .ok (.aload_n 0, 1) := by decide +kernel
theorem dX9_laysLeads_22 : decode cX9_laysLeads 22 = .ok (.iload_n 1, 1) := by decide +kernel
theorem dX9_laysLeads_23 : decode cX9_laysLeads 23 = .ok (.iconst (-1), 1) := by decide +kernel
theorem dX9_laysLeads_24 : decode cX9_laysLeads 24 = .ok (.iconst (-1), 1) := by decide +kernel
theorem dX9_laysLeads_25 : decode cX9_laysLeads 25 = .ok (.invokevirtual 174, 3) := by decide +kernel
theorem dX9_laysLeads_28 : decode cX9_laysLeads 28 = .ok (.lconst 1, 1) := by decide +kernel
theorem dX9_laysLeads_29 : decode cX9_laysLeads 29 = .ok (.iload_n 1, 1) := by decide +kernel
theorem dX9_laysLeads_30 : decode cX9_laysLeads 30 = .ok (.lshl, 1) := by decide +kernel
theorem dX9_laysLeads_31 : decode cX9_laysLeads 31 = .ok (.lor, 1) := by decide +kernel
theorem dX9_laysLeads_32 : decode cX9_laysLeads 32 = .ok (.goto 4, 3) := by decide +kernel
theorem dX9_laysLeads_35 : decode cX9_laysLeads 35 = .ok (.lconst 0, 1) := by decide +kernel
theorem dX9_laysLeads_36 : decode cX9_laysLeads 36 = .ok (.lastore, 1) := by decide +kernel
theorem dX9_laysLeads_37 : decode cX9_laysLeads 37 = .ok (.iinc 1 1, 3) := by decide +kernel
theorem dX9_laysLeads_40 : decode cX9_laysLeads 40 = .ok (.goto (-38), 3) := by decide +kernel
theorem dX9_laysLeads_43 : decode cX9_laysLeads 43 = .ok (.iconst 0, 1) := by decide +kernel
theorem dX9_laysLeads_44 : decode cX9_laysLeads 44 = .ok (.istore_n 1, 1) := by decide +kernel
theorem dX9_laysLeads_45 : decode cX9_laysLeads 45 = .ok (.iload_n 1, 1) := by decide +kernel
theorem dX9_laysLeads_46 : decode cX9_laysLeads 46 = .ok (.bipush 40, 2) := by decide +kernel
theorem dX9_laysLeads_48 : decode cX9_laysLeads 48 = .ok (.if_icmp .ge 57, 3) := by decide +kernel
theorem dX9_laysLeads_51 : decode cX9_laysLeads 51 = .ok (.iconst 0, 1) := by decide +kernel
theorem dX9_laysLeads_52 : decode cX9_laysLeads 52 = .ok (.istore_n 2, 1) := by decide +kernel
theorem dX9_laysLeads_53 : decode cX9_laysLeads 53 = .ok (.iload_n 2, 1) := by decide +kernel
theorem dX9_laysLeads_54 : decode cX9_laysLeads 54 = .ok (.bipush 40, 2) := by decide +kernel
theorem dX9_laysLeads_56 : decode cX9_laysLeads 56 = .ok (.if_icmp .ge 43, 3) := by decide +kernel
theorem dX9_laysLeads_59 : decode cX9_laysLeads 59 = .ok (.aload_n 0, 1) := by decide +kernel
theorem dX9_laysLeads_60 : decode cX9_laysLeads 60 = .ok (.getfield 41, 3) := by decide +kernel
theorem dX9_laysLeads_63 : decode cX9_laysLeads 63 = .ok (.iload_n 2, 1) := by decide +kernel
theorem dX9_laysLeads_64 : decode cX9_laysLeads 64 = .ok (.dup2, 1) := by decide +kernel
theorem dX9_laysLeads_65 : decode cX9_laysLeads 65 = .ok (.laload, 1) := by decide +kernel
theorem dX9_laysLeads_66 : decode cX9_laysLeads 66 = .ok (.aload_n 0, 1) := by decide +kernel
theorem dX9_laysLeads_67 : decode cX9_laysLeads 67 = .ok (.getfield 41, 3) := by decide +kernel
theorem dX9_laysLeads_70 : decode cX9_laysLeads 70 = .ok (.iload_n 2, 1) := by decide +kernel
theorem dX9_laysLeads_71 : decode cX9_laysLeads 71 = .ok (.laload, 1) := by decide +kernel
theorem dX9_laysLeads_72 : decode cX9_laysLeads 72 = .ok (.iload_n 1, 1) := by decide +kernel
theorem dX9_laysLeads_73 : decode cX9_laysLeads 73 = .ok (.lshr, 1) := by decide +kernel
theorem dX9_laysLeads_74 : decode cX9_laysLeads 74 = .ok (.lconst 1, 1) := by decide +kernel
theorem dX9_laysLeads_75 : decode cX9_laysLeads 75 = .ok (.land, 1) := by decide +kernel
theorem dX9_laysLeads_76 : decode cX9_laysLeads 76 = .ok (.lconst 1, 1) := by decide +kernel
theorem dX9_laysLeads_77 : decode cX9_laysLeads 77 = .ok (.lcmp, 1) := by decide +kernel
theorem dX9_laysLeads_78 : decode cX9_laysLeads 78 = .ok (.ifCond .ne 12, 3) := by decide +kernel
theorem dX9_laysLeads_81 : decode cX9_laysLeads 81 = .ok (.aload_n 0, 1) := by decide +kernel
theorem dX9_laysLeads_82 : decode cX9_laysLeads 82 = .ok (.getfield 41, 3) := by decide +kernel
theorem dX9_laysLeads_85 : decode cX9_laysLeads 85 = .ok (.iload_n 1, 1) := by decide +kernel
theorem dX9_laysLeads_86 : decode cX9_laysLeads 86 = .ok (.laload, 1) := by decide +kernel
theorem dX9_laysLeads_87 : decode cX9_laysLeads 87 = .ok (.goto 4, 3) := by decide +kernel
theorem dX9_laysLeads_90 : decode cX9_laysLeads 90 = .ok (.lconst 0, 1) := by decide +kernel
theorem dX9_laysLeads_91 : decode cX9_laysLeads 91 = .ok (.lor, 1) := by decide +kernel
theorem dX9_laysLeads_92 : decode cX9_laysLeads 92 = .ok (.lastore, 1) := by decide +kernel
theorem dX9_laysLeads_93 : decode cX9_laysLeads 93 = .ok (.iinc 2 1, 3) := by decide +kernel
theorem dX9_laysLeads_96 : decode cX9_laysLeads 96 = .ok (.goto (-43), 3) := by decide +kernel
theorem dX9_laysLeads_99 : decode cX9_laysLeads 99 = .ok (.iinc 1 1, 3) := by decide +kernel
theorem dX9_laysLeads_102 : decode cX9_laysLeads 102 = .ok (.goto (-57), 3) := by decide +kernel
theorem dX9_laysLeads_105 : decode cX9_laysLeads 105 = .ok (.return_, 1) := by decide +kernel
theorem dX9_componentOf_0 : decode cX9_componentOf 0 = .ok (.lconst 0, 1) := by decide +kernel
theorem dX9_componentOf_1 : decode cX9_componentOf 1 = .ok (.lstore_n 2, 1) := by decide +kernel
theorem dX9_componentOf_2 : decode cX9_componentOf 2 = .ok (.iconst 0, 1) := by decide +kernel
theorem dX9_componentOf_3 : decode cX9_componentOf 3 = .ok (.istore 4, 2) := by decide +kernel
theorem dX9_componentOf_5 : decode cX9_componentOf 5 = .ok (.iload 4, 2) := by decide +kernel
theorem dX9_componentOf_7 : decode cX9_componentOf 7 = .ok (.bipush 40, 2) := by decide +kernel
theorem dX9_componentOf_9 : decode cX9_componentOf 9 = .ok (.if_icmp .ge 52, 3) := by decide +kernel
theorem dX9_componentOf_12 : decode cX9_componentOf 12 = .ok (.lload_n 2, 1) := by decide +kernel
theorem dX9_componentOf_13 : decode cX9_componentOf 13 = .ok (.aload_n 0, 1) := by decide +kernel
theorem dX9_componentOf_14 : decode cX9_componentOf 14 = .ok (.getfield 41, 3) := by decide +kernel
theorem dX9_componentOf_17 : decode cX9_componentOf 17 = .ok (.iload_n 1, 1) := by decide +kernel
theorem dX9_componentOf_18 : decode cX9_componentOf 18 = .ok (.laload, 1) := by decide +kernel
theorem dX9_componentOf_19 : decode cX9_componentOf 19 = .ok (.iload 4, 2) := by decide +kernel
theorem dX9_componentOf_21 : decode cX9_componentOf 21 = .ok (.lshr, 1) := by decide +kernel
theorem dX9_componentOf_22 : decode cX9_componentOf 22 = .ok (.lconst 1, 1) := by decide +kernel
theorem dX9_componentOf_23 : decode cX9_componentOf 23 = .ok (.land, 1) := by decide +kernel
theorem dX9_componentOf_24 : decode cX9_componentOf 24 = .ok (.lconst 1, 1) := by decide +kernel
theorem dX9_componentOf_25 : decode cX9_componentOf 25 = .ok (.lcmp, 1) := by decide +kernel
theorem dX9_componentOf_26 : decode cX9_componentOf 26 = .ok (.ifCond .ne 26, 3) := by decide +kernel
theorem dX9_componentOf_29 : decode cX9_componentOf 29 = .ok (.aload_n 0, 1) := by decide +kernel
theorem dX9_componentOf_30 : decode cX9_componentOf 30 = .ok (.getfield 41, 3) := by decide +kernel
theorem dX9_componentOf_33 : decode cX9_componentOf 33 = .ok (.iload 4, 2) := by decide +kernel
theorem dX9_componentOf_35 : decode cX9_componentOf 35 = .ok (.laload, 1) := by decide +kernel
theorem dX9_componentOf_36 : decode cX9_componentOf 36 = .ok (.iload_n 1, 1) := by decide +kernel
theorem dX9_componentOf_37 : decode cX9_componentOf 37 = .ok (.lshr, 1) := by decide +kernel
theorem dX9_componentOf_38 : decode cX9_componentOf 38 = .ok (.lconst 1, 1) := by decide +kernel
theorem dX9_componentOf_39 : decode cX9_componentOf 39 = .ok (.land, 1) := by decide +kernel
theorem dX9_componentOf_40 : decode cX9_componentOf 40 = .ok (.lconst 1, 1) := by decide +kernel
theorem dX9_componentOf_41 : decode cX9_componentOf 41 = .ok (.lcmp, 1) := by decide +kernel
theorem dX9_componentOf_42 : decode cX9_componentOf 42 = .ok (.ifCond .ne 10, 3) := by decide +kernel
theorem dX9_componentOf_45 : decode cX9_componentOf 45 = .ok (.lconst 1, 1) := by decide +kernel
theorem dX9_componentOf_46 : decode cX9_componentOf 46 = .ok (.iload 4, 2) := by decide +kernel
theorem dX9_componentOf_48 : decode cX9_componentOf 48 = .ok (.lshl, 1) := by decide +kernel
theorem dX9_componentOf_49 : decode cX9_componentOf 49 = .ok (.goto 4, 3) := by decide +kernel
theorem dX9_componentOf_52 : decode cX9_componentOf 52 = .ok (.lconst 0, 1) := by decide +kernel
theorem dX9_componentOf_53 : decode cX9_componentOf 53 = .ok (.lor, 1) := by decide +kernel
theorem dX9_componentOf_54 : decode cX9_componentOf 54 = .ok (.lstore_n 2, 1) := by decide +kernel
theorem dX9_componentOf_55 : decode cX9_componentOf 55 = .ok (.iinc 4 1, 3) := by decide +kernel
theorem dX9_componentOf_58 : decode cX9_componentOf 58 = .ok (.goto (-53), 3) := by decide +kernel
theorem dX9_componentOf_61 : decode cX9_componentOf 61 = .ok (.lload_n 2, 1) := by decide +kernel
theorem dX9_componentOf_62 : decode cX9_componentOf 62 = .ok (.lreturn, 1) := by decide +kernel
theorem dX9_component_0 : decode cX9_component 0 = .ok (.aload_n 0, 1) := by decide +kernel
theorem dX9_component_1 : decode cX9_component 1 = .ok (.aload_n 0, 1) := by decide +kernel
theorem dX9_component_2 : decode cX9_component 2 = .ok (.aload_n 0, 1) := by decide +kernel
theorem dX9_component_3 : decode cX9_component 3 = .ok (.iload_n 1, 1) := by decide +kernel
theorem dX9_component_4 : decode cX9_component 4 = .ok (.invokevirtual 106, 3) := by decide +kernel
theorem dX9_component_7 : decode cX9_component 7 = .ok (.invokevirtual 187, 3) := by decide +kernel
theorem dX9_component_10 : decode cX9_component 10 = .ok (.invokevirtual 74, 3) := by decide +kernel
theorem dX9_component_13 : decode cX9_component 13 = .ok (.ifCond .eq 5, 3) := by decide +kernel
theorem dX9_component_16 : decode cX9_component 16 = .ok (.iconst 0, 1) := by decide +kernel
theorem dX9_component_17 : decode cX9_component 17 = .ok (.ireturn, 1) := by decide +kernel
theorem dX9_component_18 : decode cX9_component 18 = .ok (.aload_n 0, 1) := by decide +kernel
theorem dX9_component_19 : decode cX9_component 19 = .ok (.invokevirtual 214, 3) := by decide +kernel
theorem dX9_component_22 : decode cX9_component 22 = .ok (.aload_n 0, 1) := by decide +kernel
theorem dX9_component_23 : decode cX9_component 23 = .ok (.iload_n 1, 1) := by decide +kernel
theorem dX9_component_24 : decode cX9_component 24 = .ok (.invokevirtual 217, 3) := by decide +kernel
theorem dX9_component_27 : decode cX9_component 27 = .ok (.invokestatic 194, 3) := by decide +kernel
theorem dX9_component_30 : decode cX9_component 30 = .ok (.ireturn, 1) := by decide +kernel
theorem dX9_componentSize_0 : decode cX9_componentSize 0 = .ok (.aload_n 0, 1) := by decide +kernel
theorem dX9_componentSize_1 : decode cX9_componentSize 1 = .ok (.aload_n 0, 1) := by decide +kernel
theorem dX9_componentSize_2 : decode cX9_componentSize 2 = .ok (.aload_n 0, 1) := by decide +kernel
theorem dX9_componentSize_3 : decode cX9_componentSize 3 = .ok (.iload_n 1, 1) := by decide +kernel
theorem dX9_componentSize_4 : decode cX9_componentSize 4 = .ok (.invokevirtual 106, 3) := by decide +kernel
theorem dX9_componentSize_7 : decode cX9_componentSize 7 = .ok (.invokevirtual 187, 3) := by decide +kernel
theorem dX9_componentSize_10 : decode cX9_componentSize 10 = .ok (.invokevirtual 74, 3) := by decide +kernel
theorem dX9_componentSize_13 : decode cX9_componentSize 13 = .ok (.ifCond .eq 5, 3) := by decide +kernel
theorem dX9_componentSize_16 : decode cX9_componentSize 16 = .ok (.iconst 0, 1) := by decide +kernel
theorem dX9_componentSize_17 : decode cX9_componentSize 17 = .ok (.ireturn, 1) := by decide +kernel
theorem dX9_componentSize_18 : decode cX9_componentSize 18 = .ok (.aload_n 0, 1) := by decide +kernel
theorem dX9_componentSize_19 : decode cX9_componentSize 19 = .ok (.invokevirtual 214, 3) := by decide +kernel
theorem dX9_componentSize_22 : decode cX9_componentSize 22 = .ok (.aload_n 0, 1) := by decide +kernel
theorem dX9_componentSize_23 : decode cX9_componentSize 23 = .ok (.iload_n 1, 1) := by decide +kernel
theorem dX9_componentSize_24 : decode cX9_componentSize 24 = .ok (.invokevirtual 217, 3) := by decide +kernel
theorem dX9_componentSize_27 : decode cX9_componentSize 27 = .ok (.invokestatic 211, 3) := by decide +kernel
theorem dX9_componentSize_30 : decode cX9_componentSize 30 = .ok (.ireturn, 1) := by decide +kernel
theorem dX9_freedByClearing_0 : decode cX9_freedByClearing 0 = .ok (.aload_n 0, 1) := by decide +kernel
theorem dX9_freedByClearing_1 : decode cX9_freedByClearing 1 = .ok (.aload_n 0, 1) := by decide +kernel
theorem dX9_freedByClearing_2 : decode cX9_freedByClearing 2 = .ok (.aload_n 0, 1) := by decide +kernel
theorem dX9_freedByClearing_3 : decode cX9_freedByClearing 3 = .ok (.iload_n 1, 1) := by decide +kernel
theorem dX9_freedByClearing_4 : decode cX9_freedByClearing 4 = .ok (.iload_n 2, 1) := by decide +kernel
theorem dX9_freedByClearing_5 : decode cX9_freedByClearing 5 = .ok (.invokevirtual 125, 3) := by decide +kernel
theorem dX9_freedByClearing_8 : decode cX9_freedByClearing 8 = .ok (.invokevirtual 187, 3) := by decide +kernel
theorem dX9_freedByClearing_11 : decode cX9_freedByClearing 11 = .ok (.invokevirtual 74, 3) := by decide +kernel
theorem dX9_freedByClearing_14 : decode cX9_freedByClearing 14 = .ok (.ifCond .eq 5, 3) := by decide +kernel
theorem dX9_freedByClearing_17 : decode cX9_freedByClearing 17 = .ok (.iconst 0, 1) := by decide +kernel
theorem dX9_freedByClearing_18 : decode cX9_freedByClearing 18 = .ok (.ireturn, 1) := by decide +kernel
theorem dX9_freedByClearing_19 : decode cX9_freedByClearing 19 = .ok (.aload_n 0, 1) := by decide +kernel
theorem dX9_freedByClearing_20 : decode cX9_freedByClearing 20 = .ok (.aload_n 0, 1) := by decide +kernel
theorem dX9_freedByClearing_21 : decode cX9_freedByClearing 21 = .ok (.lconst 0, 1) := by decide +kernel
theorem dX9_freedByClearing_22 : decode cX9_freedByClearing 22 = .ok (.iconst (-1), 1) := by decide +kernel
theorem dX9_freedByClearing_23 : decode cX9_freedByClearing 23 = .ok (.iconst (-1), 1) := by decide +kernel
theorem dX9_freedByClearing_24 : decode cX9_freedByClearing 24 = .ok (.iconst (-1), 1) := by decide +kernel
theorem dX9_freedByClearing_25 : decode cX9_freedByClearing 25 = .ok (.invokevirtual 138, 3) := by decide +kernel
theorem dX9_freedByClearing_28 : decode cX9_freedByClearing 28 = .ok (.aload_n 0, 1) := by decide +kernel
theorem dX9_freedByClearing_29 : decode cX9_freedByClearing 29 = .ok (.lconst 0, 1) := by decide +kernel
theorem dX9_freedByClearing_30 : decode cX9_freedByClearing 30 = .ok (.iload_n 1, 1) := by decide +kernel
theorem dX9_freedByClearing_31 : decode cX9_freedByClearing 31 = .ok (.iload_n 2, 1) := by decide +kernel
theorem dX9_freedByClearing_32 : decode cX9_freedByClearing 32 = .ok (.iconst (-1), 1) := by decide +kernel
theorem dX9_freedByClearing_33 : decode cX9_freedByClearing 33 = .ok (.invokevirtual 138, 3) := by decide +kernel
theorem dX9_freedByClearing_36 : decode cX9_freedByClearing 36 = .ok (.ldc2_w 172, 3) := by decide +kernel
theorem dX9_freedByClearing_39 : decode cX9_freedByClearing 39 = .ok (.lxor, 1) := by decide +kernel
theorem dX9_freedByClearing_40 : decode cX9_freedByClearing 40 = .ok (.land, 1) := by decide +kernel
theorem dX9_freedByClearing_41 : decode cX9_freedByClearing 41 = .ok (.invokevirtual 204, 3) := by decide +kernel
theorem dX9_freedByClearing_44 : decode cX9_freedByClearing 44 = .ok (.l2i, 1) := by decide +kernel
theorem dX9_freedByClearing_45 : decode cX9_freedByClearing 45 = .ok (.ireturn, 1) := by decide +kernel
theorem dX9_freedByUnrooting_0 : decode cX9_freedByUnrooting 0 = .ok (.aload_n 0, 1) := by decide +kernel
theorem dX9_freedByUnrooting_1 : decode cX9_freedByUnrooting 1 = .ok (.aload_n 0, 1) := by decide +kernel
theorem dX9_freedByUnrooting_2 : decode cX9_freedByUnrooting 2 = .ok (.aload_n 0, 1) := by decide +kernel
theorem dX9_freedByUnrooting_3 : decode cX9_freedByUnrooting 3 = .ok (.iload_n 1, 1) := by decide +kernel
theorem dX9_freedByUnrooting_4 : decode cX9_freedByUnrooting 4 = .ok (.invokevirtual 106, 3) := by decide +kernel
theorem dX9_freedByUnrooting_7 : decode cX9_freedByUnrooting 7 = .ok (.invokevirtual 187, 3) := by decide +kernel
theorem dX9_freedByUnrooting_10 : decode cX9_freedByUnrooting 10 = .ok (.invokevirtual 74, 3) := by decide +kernel
theorem dX9_freedByUnrooting_13 : decode cX9_freedByUnrooting 13 = .ok (.ifCond .eq 5, 3) := by decide +kernel
theorem dX9_freedByUnrooting_16 : decode cX9_freedByUnrooting 16 = .ok (.iconst 0, 1) := by decide +kernel
theorem dX9_freedByUnrooting_17 : decode cX9_freedByUnrooting 17 = .ok (.ireturn, 1) := by decide +kernel
theorem dX9_freedByUnrooting_18 : decode cX9_freedByUnrooting 18 = .ok (.aload_n 0, 1) := by decide +kernel
theorem dX9_freedByUnrooting_19 : decode cX9_freedByUnrooting 19 = .ok (.aload_n 0, 1) := by decide +kernel
theorem dX9_freedByUnrooting_20 : decode cX9_freedByUnrooting 20 = .ok (.lconst 0, 1) := by decide +kernel
theorem dX9_freedByUnrooting_21 : decode cX9_freedByUnrooting 21 = .ok (.iconst (-1), 1) := by decide +kernel
theorem dX9_freedByUnrooting_22 : decode cX9_freedByUnrooting 22 = .ok (.iconst (-1), 1) := by decide +kernel
theorem dX9_freedByUnrooting_23 : decode cX9_freedByUnrooting 23 = .ok (.iconst (-1), 1) := by decide +kernel
theorem dX9_freedByUnrooting_24 : decode cX9_freedByUnrooting 24 = .ok (.invokevirtual 138, 3) := by decide +kernel
theorem dX9_freedByUnrooting_27 : decode cX9_freedByUnrooting 27 = .ok (.aload_n 0, 1) := by decide +kernel
theorem dX9_freedByUnrooting_28 : decode cX9_freedByUnrooting 28 = .ok (.lconst 0, 1) := by decide +kernel
theorem dX9_freedByUnrooting_29 : decode cX9_freedByUnrooting 29 = .ok (.iconst (-1), 1) := by decide +kernel
theorem dX9_freedByUnrooting_30 : decode cX9_freedByUnrooting 30 = .ok (.iconst (-1), 1) := by decide +kernel
theorem dX9_freedByUnrooting_31 : decode cX9_freedByUnrooting 31 = .ok (.iload_n 1, 1) := by decide +kernel
theorem dX9_freedByUnrooting_32 : decode cX9_freedByUnrooting 32 = .ok (.invokevirtual 138, 3) := by decide +kernel
theorem dX9_freedByUnrooting_35 : decode cX9_freedByUnrooting 35 = .ok (.ldc2_w 172, 3) := by decide +kernel
theorem dX9_freedByUnrooting_38 : decode cX9_freedByUnrooting 38 = .ok (.lxor, 1) := by decide +kernel
theorem dX9_freedByUnrooting_39 : decode cX9_freedByUnrooting 39 = .ok (.land, 1) := by decide +kernel
theorem dX9_freedByUnrooting_40 : decode cX9_freedByUnrooting 40 = .ok (.invokevirtual 204, 3) := by decide +kernel
theorem dX9_freedByUnrooting_43 : decode cX9_freedByUnrooting 43 = .ok (.l2i, 1) := by decide +kernel
theorem dX9_freedByUnrooting_44 : decode cX9_freedByUnrooting 44 = .ok (.ireturn, 1) := by decide +kernel
theorem lmX9_138 : Cond.methodLink RX9 138 yX9_reached ∈ hb_wl := hb_w 1554 (by decide +kernel) (by decide +kernel)
theorem lpX9_collect_63 : hb_lkP yX9_collect 63 9 4 := ⟨RX9, TX9, 29, rfl, by decide, rfl, Or.inl ⟨rfl, Or.inl (hb_w 1328 (by decide +kernel) (by decide +kernel))⟩⟩
theorem lmX9_142 : Cond.methodLink RX9 142 yX9_collects ∈ hb_wl := hb_w 1550 (by decide +kernel) (by decide +kernel)
theorem lpX9_objects_63 : hb_lkP yX9_objects 63 9 4 := ⟨RX9, TX9, 29, rfl, by decide, rfl, Or.inl ⟨rfl, Or.inl (hb_w 1328 (by decide +kernel) (by decide +kernel))⟩⟩
theorem lpX9_exists_63 : hb_lkP yX9_exists 63 9 4 := ⟨RX9, TX9, 29, rfl, by decide, rfl, Or.inl ⟨rfl, Or.inl (hb_w 1328 (by decide +kernel) (by decide +kernel))⟩⟩
theorem lmX9_145 : Cond.methodLink RX9 145 yX9_referencesFrom ∈ hb_wl := hb_w 1583 (by decide +kernel) (by decide +kernel)
theorem lmX9_148 : Cond.methodLink RX9 148 yX9_referencesTo ∈ hb_wl := hb_w 1587 (by decide +kernel) (by decide +kernel)
theorem lmX9_151 : Cond.methodLink RX9 151 yX9_objectBy ∈ hb_wl := hb_w 1579 (by decide +kernel) (by decide +kernel)
theorem lkX9_154 : hb_lkF RX9 154 9 10 := ⟨RX9, TX9, 29, rfl, by decide, rfl, Or.inl (hb_w 1334 (by decide +kernel) (by decide +kernel))⟩
theorem wd_1599 : (Jvm.Cond.constantLong "HeapBrowserModel" (158 : Nat) (1103515245 : Int64)) ∈ hb_wl := hb_w 1599 (by decide +kernel) (by decide +kernel)
theorem wd_1600 : (Jvm.Cond.constantLong "HeapBrowserModel" (160 : Nat) (12345 : Int64)) ∈ hb_wl := hb_w 1600 (by decide +kernel) (by decide +kernel)
theorem wd_1601 : (Jvm.Cond.constantLong "HeapBrowserModel" (162 : Nat) (2147483648 : Int64)) ∈ hb_wl := hb_w 1601 (by decide +kernel) (by decide +kernel)
theorem lpX9_draw_154 : hb_lkP yX9_draw 154 9 10 := ⟨RX9, TX9, 29, rfl, by decide, rfl, Or.inl ⟨rfl, Or.inl (hb_w 1334 (by decide +kernel) (by decide +kernel))⟩⟩
theorem wd_1602 : (Jvm.Cond.constantLong "HeapBrowserModel" (164 : Nat) (65536 : Int64)) ∈ hb_wl := hb_w 1602 (by decide +kernel) (by decide +kernel)
theorem lmX9_166 : Cond.methodLink RX9 166 yX9_draw ∈ hb_wl := hb_w 1595 (by decide +kernel) (by decide +kernel)
theorem lmX9_169 : Cond.methodLink RX9 169 yX9_lowest ∈ hb_wl := hb_w 1603 (by decide +kernel) (by decide +kernel)
theorem lpX9_populate_154 : hb_lkP yX9_populate 154 9 10 := ⟨RX9, TX9, 29, rfl, by decide, rfl, Or.inl ⟨rfl, Or.inl (hb_w 1334 (by decide +kernel) (by decide +kernel))⟩⟩
theorem lkX9_31 : hb_lkF RX9 31 9 12 := ⟨RX9, TX9, 29, rfl, by decide, rfl, Or.inl (hb_w 1336 (by decide +kernel) (by decide +kernel))⟩
theorem lkX9_178 : hb_lkF RX9 178 9 11 := ⟨RX9, TX9, 29, rfl, by decide, rfl, Or.inl (hb_w 1335 (by decide +kernel) (by decide +kernel))⟩
theorem lpX9_laysRetained_178 : hb_lkP yX9_laysRetained 178 9 11 := ⟨RX9, TX9, 29, rfl, by decide, rfl, Or.inl ⟨rfl, Or.inl (hb_w 1335 (by decide +kernel) (by decide +kernel))⟩⟩
theorem lmX9_181 : Cond.methodLink RX9 181 yX9_isReached ∈ hb_wl := hb_w 1642 (by decide +kernel) (by decide +kernel)
theorem lmX9_184 : Cond.methodLink RX9 184 yX9_depthOf ∈ hb_wl := hb_w 1646 (by decide +kernel) (by decide +kernel)
theorem lkX9_35 : hb_lkF RX9 35 9 13 := ⟨RX9, TX9, 29, rfl, by decide, rfl, Or.inl (hb_w 1337 (by decide +kernel) (by decide +kernel))⟩
theorem lmX9_187 : Cond.methodLink RX9 187 yX9_need ∈ hb_wl := hb_w 1611 (by decide +kernel) (by decide +kernel)
theorem lmX9_191 : Cond.methodLink RX9 191 yX9_laysFar ∈ hb_wl := hb_w 1615 (by decide +kernel) (by decide +kernel)
theorem lkX9_38 : hb_lkF RX9 38 9 14 := ⟨RX9, TX9, 29, rfl, by decide, rfl, Or.inl (hb_w 1338 (by decide +kernel) (by decide +kernel))⟩
theorem lmX9_194 : Cond.methodLink RX9 194 yX9_first ∈ hb_wl := hb_w 1623 (by decide +kernel) (by decide +kernel)
theorem lmX9_198 : Cond.methodLink RX9 198 yX9_laysRetained ∈ hb_wl := hb_w 1630 (by decide +kernel) (by decide +kernel)
theorem lmX9_201 : Cond.methodLink RX9 201 yX9_immediate ∈ hb_wl := hb_w 1638 (by decide +kernel) (by decide +kernel)
theorem lmX9_204 : Cond.methodLink RX9 204 yX9_sizes ∈ hb_wl := hb_w 1666 (by decide +kernel) (by decide +kernel)
theorem lmX9_208 : Cond.methodLink RX9 208 yX9_retainedBy ∈ hb_wl := hb_w 1662 (by decide +kernel) (by decide +kernel)
theorem lmX9_211 : Cond.methodLink RX9 211 yX9_bits ∈ hb_wl := hb_w 1674 (by decide +kernel) (by decide +kernel)
theorem lkX9_41 : hb_lkF RX9 41 9 15 := ⟨RX9, TX9, 29, rfl, by decide, rfl, Or.inl (hb_w 1339 (by decide +kernel) (by decide +kernel))⟩
theorem lmX9_214 : Cond.methodLink RX9 214 yX9_laysLeads ∈ hb_wl := hb_w 1681 (by decide +kernel) (by decide +kernel)
theorem lmX9_217 : Cond.methodLink RX9 217 yX9_componentOf ∈ hb_wl := hb_w 1685 (by decide +kernel) (by decide +kernel)
