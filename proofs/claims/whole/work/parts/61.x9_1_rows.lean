theorem dX9_init_0 : decode cX9_init 0 = .ok (.aload_n 0, 1) := by decide +kernel
theorem dX9_init_1 : decode cX9_init 1 = .ok (.invokespecial 1, 3) := by decide +kernel
theorem dX9_init_4 : decode cX9_init 4 = .ok (.aload_n 0, 1) := by decide +kernel
theorem dX9_init_5 : decode cX9_init 5 = .ok (.sipush 552, 3) := by decide +kernel
theorem dX9_init_8 : decode cX9_init 8 = .ok (.newarray .int, 2) := by decide +kernel
theorem dX9_init_10 : decode cX9_init 10 = .ok (.putfield 7, 3) := by decide +kernel
theorem dX9_init_13 : decode cX9_init 13 = .ok (.aload_n 0, 1) := by decide +kernel
theorem dX9_init_14 : decode cX9_init 14 = .ok (.sipush 2760, 3) := by decide +kernel
theorem dX9_init_17 : decode cX9_init 17 = .ok (.newarray .int, 2) := by decide +kernel
theorem dX9_init_19 : decode cX9_init 19 = .ok (.putfield 13, 3) := by decide +kernel
theorem dX9_init_22 : decode cX9_init 22 = .ok (.aload_n 0, 1) := by decide +kernel
theorem dX9_init_23 : decode cX9_init 23 = .ok (.sipush 552, 3) := by decide +kernel
theorem dX9_init_26 : decode cX9_init 26 = .ok (.newarray .int, 2) := by decide +kernel
theorem dX9_init_28 : decode cX9_init 28 = .ok (.putfield 16, 3) := by decide +kernel
theorem dX9_init_31 : decode cX9_init 31 = .ok (.aload_n 0, 1) := by decide +kernel
theorem dX9_init_32 : decode cX9_init 32 = .ok (.bipush 100, 2) := by decide +kernel
theorem dX9_init_34 : decode cX9_init 34 = .ok (.newarray .int, 2) := by decide +kernel
theorem dX9_init_36 : decode cX9_init 36 = .ok (.putfield 19, 3) := by decide +kernel
theorem dX9_init_39 : decode cX9_init 39 = .ok (.aload_n 0, 1) := by decide +kernel
theorem dX9_init_40 : decode cX9_init 40 = .ok (.sipush 1040, 3) := by decide +kernel
theorem dX9_init_43 : decode cX9_init 43 = .ok (.newarray .int, 2) := by decide +kernel
theorem dX9_init_45 : decode cX9_init 45 = .ok (.putfield 22, 3) := by decide +kernel
theorem dX9_init_48 : decode cX9_init 48 = .ok (.aload_n 0, 1) := by decide +kernel
theorem dX9_init_49 : decode cX9_init 49 = .ok (.iconst 2, 1) := by decide +kernel
theorem dX9_init_50 : decode cX9_init 50 = .ok (.newarray .int, 2) := by decide +kernel
theorem dX9_init_52 : decode cX9_init 52 = .ok (.putfield 25, 3) := by decide +kernel
theorem dX9_init_55 : decode cX9_init 55 = .ok (.aload_n 0, 1) := by decide +kernel
theorem dX9_init_56 : decode cX9_init 56 = .ok (.iconst 2, 1) := by decide +kernel
theorem dX9_init_57 : decode cX9_init 57 = .ok (.newarray .int, 2) := by decide +kernel
theorem dX9_init_59 : decode cX9_init 59 = .ok (.putfield 28, 3) := by decide +kernel
theorem dX9_init_62 : decode cX9_init 62 = .ok (.aload_n 0, 1) := by decide +kernel
theorem dX9_init_63 : decode cX9_init 63 = .ok (.bipush 40, 2) := by decide +kernel
theorem dX9_init_65 : decode cX9_init 65 = .ok (.newarray .long, 2) := by decide +kernel
theorem dX9_init_67 : decode cX9_init 67 = .ok (.putfield 31, 3) := by decide +kernel
theorem dX9_init_70 : decode cX9_init 70 = .ok (.aload_n 0, 1) := by decide +kernel
theorem dX9_init_71 : decode cX9_init 71 = .ok (.bipush 40, 2) := by decide +kernel
theorem dX9_init_73 : decode cX9_init 73 = .ok (.newarray .int, 2) := by decide +kernel
theorem dX9_init_75 : decode cX9_init 75 = .ok (.putfield 35, 3) := by decide +kernel
theorem dX9_init_78 : decode cX9_init 78 = .ok (.aload_n 0, 1) := by decide +kernel
theorem dX9_init_79 : decode cX9_init 79 = .ok (.bipush 41, 2) := by decide +kernel
theorem dX9_init_81 : decode cX9_init 81 = .ok (.newarray .long, 2) := by decide +kernel
theorem dX9_init_83 : decode cX9_init 83 = .ok (.putfield 38, 3) := by decide +kernel
theorem dX9_init_86 : decode cX9_init 86 = .ok (.aload_n 0, 1) := by decide +kernel
theorem dX9_init_87 : decode cX9_init 87 = .ok (.bipush 40, 2) := by decide +kernel
theorem dX9_init_89 : decode cX9_init 89 = .ok (.newarray .long, 2) := by decide +kernel
theorem dX9_init_91 : decode cX9_init 91 = .ok (.putfield 41, 3) := by decide +kernel
theorem dX9_init_94 : decode cX9_init 94 = .ok (.aload_n 0, 1) := by decide +kernel
theorem dX9_init_95 : decode cX9_init 95 = .ok (.bipush 100, 2) := by decide +kernel
theorem dX9_init_97 : decode cX9_init 97 = .ok (.newarray .int, 2) := by decide +kernel
theorem dX9_init_99 : decode cX9_init 99 = .ok (.putfield 44, 3) := by decide +kernel
theorem dX9_init_102 : decode cX9_init 102 = .ok (.aload_n 0, 1) := by decide +kernel
theorem dX9_init_103 : decode cX9_init 103 = .ok (.bipush 100, 2) := by decide +kernel
theorem dX9_init_105 : decode cX9_init 105 = .ok (.newarray .int, 2) := by decide +kernel
theorem dX9_init_107 : decode cX9_init 107 = .ok (.putfield 47, 3) := by decide +kernel
theorem dX9_init_110 : decode cX9_init 110 = .ok (.aload_n 0, 1) := by decide +kernel
theorem dX9_init_111 : decode cX9_init 111 = .ok (.bipush 100, 2) := by decide +kernel
theorem dX9_init_113 : decode cX9_init 113 = .ok (.newarray .int, 2) := by decide +kernel
theorem dX9_init_115 : decode cX9_init 115 = .ok (.putfield 50, 3) := by decide +kernel
theorem dX9_init_118 : decode cX9_init 118 = .ok (.aload_n 0, 1) := by decide +kernel
theorem dX9_init_119 : decode cX9_init 119 = .ok (.bipush 100, 2) := by decide +kernel
theorem dX9_init_121 : decode cX9_init 121 = .ok (.newarray .int, 2) := by decide +kernel
theorem dX9_init_123 : decode cX9_init 123 = .ok (.putfield 53, 3) := by decide +kernel
theorem dX9_init_126 : decode cX9_init 126 = .ok (.aload_n 0, 1) := by decide +kernel
theorem dX9_init_127 : decode cX9_init 127 = .ok (.bipush 100, 2) := by decide +kernel
theorem dX9_init_129 : decode cX9_init 129 = .ok (.newarray .boolean, 2) := by decide +kernel
theorem dX9_init_131 : decode cX9_init 131 = .ok (.putfield 56, 3) := by decide +kernel
theorem dX9_init_134 : decode cX9_init 134 = .ok (.aload_n 0, 1) := by decide +kernel
theorem dX9_init_135 : decode cX9_init 135 = .ok (.sipush 400, 3) := by decide +kernel
theorem dX9_init_138 : decode cX9_init 138 = .ok (.newarray .int, 2) := by decide +kernel
theorem dX9_init_140 : decode cX9_init 140 = .ok (.putfield 60, 3) := by decide +kernel
theorem dX9_init_143 : decode cX9_init 143 = .ok (.aload_n 0, 1) := by decide +kernel
theorem dX9_init_144 : decode cX9_init 144 = .ok (.getfield 7, 3) := by decide +kernel
theorem dX9_init_147 : decode cX9_init 147 = .ok (.iconst 0, 1) := by decide +kernel
theorem dX9_init_148 : decode cX9_init 148 = .ok (.iconst 1, 1) := by decide +kernel
theorem dX9_init_149 : decode cX9_init 149 = .ok (.iastore, 1) := by decide +kernel
theorem dX9_init_150 : decode cX9_init 150 = .ok (.aload_n 0, 1) := by decide +kernel
theorem dX9_init_151 : decode cX9_init 151 = .ok (.getfield 7, 3) := by decide +kernel
theorem dX9_init_154 : decode cX9_init 154 = .ok (.iconst 1, 1) := by decide +kernel
theorem dX9_init_155 : decode cX9_init 155 = .ok (.iconst (-1), 1) := by decide +kernel
theorem dX9_init_156 : decode cX9_init 156 = .ok (.iastore, 1) := by decide +kernel
theorem dX9_init_157 : decode cX9_init 157 = .ok (.aload_n 0, 1) := by decide +kernel
theorem dX9_init_158 : decode cX9_init 158 = .ok (.getfield 7, 3) := by decide +kernel
theorem dX9_init_161 : decode cX9_init 161 = .ok (.bipush 31, 2) := by decide +kernel
theorem dX9_init_163 : decode cX9_init 163 = .ok (.iconst 1, 1) := by decide +kernel
theorem dX9_init_164 : decode cX9_init 164 = .ok (.iastore, 1) := by decide +kernel
theorem dX9_init_165 : decode cX9_init 165 = .ok (.return_, 1) := by decide +kernel
theorem dX9_thrown_0 : decode cX9_thrown 0 = .ok (.aload_n 0, 1) := by decide +kernel
theorem dX9_thrown_1 : decode cX9_thrown 1 = .ok (.getfield 63, 3) := by decide +kernel
theorem dX9_thrown_4 : decode cX9_thrown 4 = .ok (.ireturn, 1) := by decide +kernel
theorem dX9_refused_0 : decode cX9_refused 0 = .ok (.aload_n 0, 1) := by decide +kernel
theorem dX9_refused_1 : decode cX9_refused 1 = .ok (.iload_n 1, 1) := by decide +kernel
theorem dX9_refused_2 : decode cX9_refused 2 = .ok (.putfield 63, 3) := by decide +kernel
theorem dX9_refused_5 : decode cX9_refused 5 = .ok (.iload_n 1, 1) := by decide +kernel
theorem dX9_refused_6 : decode cX9_refused 6 = .ok (.ifCond .le 7, 3) := by decide +kernel
theorem dX9_refused_9 : decode cX9_refused 9 = .ok (.iconst 1, 1) := by decide +kernel
theorem dX9_refused_10 : decode cX9_refused 10 = .ok (.goto 4, 3) := by decide +kernel
theorem dX9_refused_13 : decode cX9_refused 13 = .ok (.iconst 0, 1) := by decide +kernel
theorem dX9_refused_14 : decode cX9_refused 14 = .ok (.ireturn, 1) := by decide +kernel
theorem dX9_within_0 : decode cX9_within 0 = .ok (.iload_n 0, 1) := by decide +kernel
theorem dX9_within_1 : decode cX9_within 1 = .ok (.iload_n 1, 1) := by decide +kernel
theorem dX9_within_2 : decode cX9_within 2 = .ok (.if_icmp .lt 12, 3) := by decide +kernel
theorem dX9_within_5 : decode cX9_within 5 = .ok (.iload_n 0, 1) := by decide +kernel
theorem dX9_within_6 : decode cX9_within 6 = .ok (.iload_n 2, 1) := by decide +kernel
theorem dX9_within_7 : decode cX9_within 7 = .ok (.if_icmp .gt 7, 3) := by decide +kernel
theorem dX9_within_10 : decode cX9_within 10 = .ok (.iconst 1, 1) := by decide +kernel
theorem dX9_within_11 : decode cX9_within 11 = .ok (.goto 4, 3) := by decide +kernel
theorem dX9_within_14 : decode cX9_within 14 = .ok (.iconst 0, 1) := by decide +kernel
theorem dX9_within_15 : decode cX9_within 15 = .ok (.ireturn, 1) := by decide +kernel
theorem dX9_keeps_0 : decode cX9_keeps 0 = .ok (.aload_n 0, 1) := by decide +kernel
theorem dX9_keeps_1 : decode cX9_keeps 1 = .ok (.getfield 67, 3) := by decide +kernel
theorem dX9_keeps_4 : decode cX9_keeps 4 = .ok (.iconst 5, 1) := by decide +kernel
theorem dX9_keeps_5 : decode cX9_keeps 5 = .ok (.if_icmp .ne 44, 3) := by decide +kernel
theorem dX9_keeps_8 : decode cX9_keeps 8 = .ok (.iconst 0, 1) := by decide +kernel
theorem dX9_keeps_9 : decode cX9_keeps 9 = .ok (.istore_n 2, 1) := by decide +kernel
theorem dX9_keeps_10 : decode cX9_keeps 10 = .ok (.iload_n 2, 1) := by decide +kernel
theorem dX9_keeps_11 : decode cX9_keeps 11 = .ok (.sipush 2208, 3) := by decide +kernel
theorem dX9_keeps_14 : decode cX9_keeps 14 = .ok (.if_icmp .ge 25, 3) := by decide +kernel
theorem dX9_keeps_17 : decode cX9_keeps 17 = .ok (.aload_n 0, 1) := by decide +kernel
theorem dX9_keeps_18 : decode cX9_keeps 18 = .ok (.getfield 13, 3) := by decide +kernel
theorem dX9_keeps_21 : decode cX9_keeps 21 = .ok (.iload_n 2, 1) := by decide +kernel
theorem dX9_keeps_22 : decode cX9_keeps 22 = .ok (.aload_n 0, 1) := by decide +kernel
theorem dX9_keeps_23 : decode cX9_keeps 23 = .ok (.getfield 13, 3) := by decide +kernel
theorem dX9_keeps_26 : decode cX9_keeps 26 = .ok (.iload_n 2, 1) := by decide +kernel
theorem dX9_keeps_27 : decode cX9_keeps 27 = .ok (.sipush 552, 3) := by decide +kernel
theorem dX9_keeps_30 : decode cX9_keeps 30 = .ok (.iadd, 1) := by decide +kernel
theorem dX9_keeps_31 : decode cX9_keeps 31 = .ok (.iaload, 1) := by decide +kernel
theorem dX9_keeps_32 : decode cX9_keeps 32 = .ok (.iastore, 1) := by decide +kernel
theorem dX9_keeps_33 : decode cX9_keeps 33 = .ok (.iinc 2 1, 3) := by decide +kernel
theorem dX9_keeps_36 : decode cX9_keeps 36 = .ok (.goto (-26), 3) := by decide +kernel
theorem dX9_keeps_39 : decode cX9_keeps 39 = .ok (.aload_n 0, 1) := by decide +kernel
theorem dX9_keeps_40 : decode cX9_keeps 40 = .ok (.dup, 1) := by decide +kernel
theorem dX9_keeps_41 : decode cX9_keeps 41 = .ok (.getfield 67, 3) := by decide +kernel
theorem dX9_keeps_44 : decode cX9_keeps 44 = .ok (.iconst 1, 1) := by decide +kernel
theorem dX9_keeps_45 : decode cX9_keeps 45 = .ok (.isub, 1) := by decide +kernel
theorem dX9_keeps_46 : decode cX9_keeps 46 = .ok (.putfield 67, 3) := by decide +kernel
theorem dX9_keeps_49 : decode cX9_keeps 49 = .ok (.iconst 0, 1) := by decide +kernel
theorem dX9_keeps_50 : decode cX9_keeps 50 = .ok (.istore_n 2, 1) := by decide +kernel
theorem dX9_keeps_51 : decode cX9_keeps 51 = .ok (.iload_n 2, 1) := by decide +kernel
theorem dX9_keeps_52 : decode cX9_keeps 52 = .ok (.sipush 552, 3) := by decide +kernel
theorem dX9_keeps_55 : decode cX9_keeps 55 = .ok (.if_icmp .ge 27, 3) := by decide +kernel
theorem dX9_keeps_58 : decode cX9_keeps 58 = .ok (.aload_n 0, 1) := by decide +kernel
theorem dX9_keeps_59 : decode cX9_keeps 59 = .ok (.getfield 13, 3) := by decide +kernel
theorem dX9_keeps_62 : decode cX9_keeps 62 = .ok (.sipush 552, 3) := by decide +kernel
theorem dX9_keeps_65 : decode cX9_keeps 65 = .ok (.aload_n 0, 1) := by decide +kernel
theorem dX9_keeps_66 : decode cX9_keeps 66 = .ok (.getfield 67, 3) := by decide +kernel
theorem dX9_keeps_69 : decode cX9_keeps 69 = .ok (.imul, 1) := by decide +kernel
theorem dX9_keeps_70 : decode cX9_keeps 70 = .ok (.iload_n 2, 1) := by decide +kernel
theorem dX9_keeps_71 : decode cX9_keeps 71 = .ok (.iadd, 1) := by decide +kernel
theorem dX9_keeps_72 : decode cX9_keeps 72 = .ok (.aload_n 1, 1) := by decide +kernel
theorem dX9_keeps_73 : decode cX9_keeps 73 = .ok (.iload_n 2, 1) := by decide +kernel
theorem dX9_keeps_74 : decode cX9_keeps 74 = .ok (.iaload, 1) := by decide +kernel
theorem dX9_keeps_75 : decode cX9_keeps 75 = .ok (.iastore, 1) := by decide +kernel
theorem dX9_keeps_76 : decode cX9_keeps 76 = .ok (.iinc 2 1, 3) := by decide +kernel
theorem dX9_keeps_79 : decode cX9_keeps 79 = .ok (.goto (-28), 3) := by decide +kernel
theorem dX9_keeps_82 : decode cX9_keeps 82 = .ok (.aload_n 0, 1) := by decide +kernel
theorem dX9_keeps_83 : decode cX9_keeps 83 = .ok (.dup, 1) := by decide +kernel
theorem dX9_keeps_84 : decode cX9_keeps 84 = .ok (.getfield 67, 3) := by decide +kernel
theorem dX9_keeps_87 : decode cX9_keeps 87 = .ok (.iconst 1, 1) := by decide +kernel
theorem dX9_keeps_88 : decode cX9_keeps 88 = .ok (.iadd, 1) := by decide +kernel
theorem dX9_keeps_89 : decode cX9_keeps 89 = .ok (.putfield 67, 3) := by decide +kernel
theorem dX9_keeps_92 : decode cX9_keeps 92 = .ok (.return_, 1) := by decide +kernel
theorem dX9_saves_0 : decode cX9_saves 0 = .ok (.aload_n 0, 1) := by decide +kernel
theorem dX9_saves_1 : decode cX9_saves 1 = .ok (.aload_n 0, 1) := by decide +kernel
theorem dX9_saves_2 : decode cX9_saves 2 = .ok (.getfield 7, 3) := by decide +kernel
theorem dX9_saves_5 : decode cX9_saves 5 = .ok (.invokevirtual 70, 3) := by decide +kernel
theorem dX9_saves_8 : decode cX9_saves 8 = .ok (.return_, 1) := by decide +kernel
theorem dX9_undo_0 : decode cX9_undo 0 = .ok (.aload_n 0, 1) := by decide +kernel
theorem dX9_undo_1 : decode cX9_undo 1 = .ok (.aload_n 0, 1) := by decide +kernel
theorem dX9_undo_2 : decode cX9_undo 2 = .ok (.getfield 67, 3) := by decide +kernel
theorem dX9_undo_5 : decode cX9_undo 5 = .ok (.ifCond .ne 7, 3) := by decide +kernel
theorem dX9_undo_8 : decode cX9_undo 8 = .ok (.iconst 1, 1) := by decide +kernel
theorem dX9_undo_9 : decode cX9_undo 9 = .ok (.goto 4, 3) := by decide +kernel
theorem dX9_undo_12 : decode cX9_undo 12 = .ok (.iconst 0, 1) := by decide +kernel
theorem dX9_undo_13 : decode cX9_undo 13 = .ok (.invokevirtual 74, 3) := by decide +kernel
theorem dX9_undo_16 : decode cX9_undo 16 = .ok (.ifCond .eq 5, 3) := by decide +kernel
theorem dX9_undo_19 : decode cX9_undo 19 = .ok (.iconst 0, 1) := by decide +kernel
theorem dX9_undo_20 : decode cX9_undo 20 = .ok (.ireturn, 1) := by decide +kernel
theorem dX9_undo_21 : decode cX9_undo 21 = .ok (.aload_n 0, 1) := by decide +kernel
theorem dX9_undo_22 : decode cX9_undo 22 = .ok (.dup, 1) := by decide +kernel
theorem dX9_undo_23 : decode cX9_undo 23 = .ok (.getfield 67, 3) := by decide +kernel
theorem dX9_undo_26 : decode cX9_undo 26 = .ok (.iconst 1, 1) := by decide +kernel
theorem dX9_undo_27 : decode cX9_undo 27 = .ok (.isub, 1) := by decide +kernel
theorem dX9_undo_28 : decode cX9_undo 28 = .ok (.putfield 67, 3) := by decide +kernel
theorem dX9_undo_31 : decode cX9_undo 31 = .ok (.iconst 0, 1) := by decide +kernel
theorem dX9_undo_32 : decode cX9_undo 32 = .ok (.istore_n 1, 1) := by decide +kernel
theorem dX9_undo_33 : decode cX9_undo 33 = .ok (.iload_n 1, 1) := by decide +kernel
theorem dX9_undo_34 : decode cX9_undo 34 = .ok (.sipush 552, 3) := by decide +kernel
theorem dX9_undo_37 : decode cX9_undo 37 = .ok (.if_icmp .ge 30, 3) := by decide +kernel
theorem dX9_undo_40 : decode cX9_undo 40 = .ok (.aload_n 0, 1) := by decide +kernel
theorem dX9_undo_41 : decode cX9_undo 41 = .ok (.getfield 7, 3) := by decide +kernel
theorem dX9_undo_44 : decode cX9_undo 44 = .ok (.iload_n 1, 1) := by decide +kernel
theorem dX9_undo_45 : decode cX9_undo 45 = .ok (.aload_n 0, 1) := by decide +kernel
theorem dX9_undo_46 : decode cX9_undo 46 = .ok (.getfield 13, 3) := by decide +kernel
theorem dX9_undo_49 : decode cX9_undo 49 = .ok (.sipush 552, 3) := by decide +kernel
theorem dX9_undo_52 : decode cX9_undo 52 = .ok (.aload_n 0, 1) := by decide +kernel
theorem dX9_undo_53 : decode cX9_undo 53 = .ok (.getfield 67, 3) := by decide +kernel
theorem dX9_undo_56 : decode cX9_undo 56 = .ok (.imul, 1) := by decide +kernel
theorem dX9_undo_57 : decode cX9_undo 57 = .ok (.iload_n 1, 1) := by decide +kernel
theorem dX9_undo_58 : decode cX9_undo 58 = .ok (.iadd, 1) := by decide +kernel
theorem dX9_undo_59 : decode cX9_undo 59 = .ok (.iaload, 1) := by decide +kernel
theorem dX9_undo_60 : decode cX9_undo 60 = .ok (.iastore, 1) := by decide +kernel
theorem dX9_undo_61 : decode cX9_undo 61 = .ok (.iinc 1 1, 3) := by decide +kernel
theorem dX9_undo_64 : decode cX9_undo 64 = .ok (.goto (-31), 3) := by decide +kernel
theorem dX9_undo_67 : decode cX9_undo 67 = .ok (.aload_n 0, 1) := by decide +kernel
theorem dX9_undo_68 : decode cX9_undo 68 = .ok (.getfield 67, 3) := by decide +kernel
theorem dX9_undo_71 : decode cX9_undo 71 = .ok (.ireturn, 1) := by decide +kernel
theorem dX9_isClass_0 : decode cX9_isClass 0 = .ok (.iload_n 1, 1) := by decide +kernel
theorem dX9_isClass_1 : decode cX9_isClass 1 = .ok (.iconst 0, 1) := by decide +kernel
theorem dX9_isClass_2 : decode cX9_isClass 2 = .ok (.aload_n 0, 1) := by decide +kernel
theorem dX9_isClass_3 : decode cX9_isClass 3 = .ok (.getfield 7, 3) := by decide +kernel
theorem dX9_isClass_6 : decode cX9_isClass 6 = .ok (.iconst 0, 1) := by decide +kernel
theorem dX9_isClass_7 : decode cX9_isClass 7 = .ok (.iaload, 1) := by decide +kernel
theorem dX9_isClass_8 : decode cX9_isClass 8 = .ok (.iconst 1, 1) := by decide +kernel
theorem dX9_isClass_9 : decode cX9_isClass 9 = .ok (.isub, 1) := by decide +kernel
theorem dX9_isClass_10 : decode cX9_isClass 10 = .ok (.invokestatic 78, 3) := by decide +kernel
theorem dX9_isClass_13 : decode cX9_isClass 13 = .ok (.ireturn, 1) := by decide +kernel
theorem dX9_fieldsOf_0 : decode cX9_fieldsOf 0 = .ok (.iconst 0, 1) := by decide +kernel
theorem dX9_fieldsOf_1 : decode cX9_fieldsOf 1 = .ok (.istore_n 2, 1) := by decide +kernel
theorem dX9_fieldsOf_2 : decode cX9_fieldsOf 2 = .ok (.iload_n 1, 1) := by decide +kernel
theorem dX9_fieldsOf_3 : decode cX9_fieldsOf 3 = .ok (.istore_n 3, 1) := by decide +kernel
theorem dX9_fieldsOf_4 : decode cX9_fieldsOf 4 = .ok (.iload_n 3, 1) := by decide +kernel
theorem dX9_fieldsOf_5 : decode cX9_fieldsOf 5 = .ok (.iconst (-1), 1) := by decide +kernel
theorem dX9_fieldsOf_6 : decode cX9_fieldsOf 6 = .ok (.if_icmp .eq 27, 3) := by decide +kernel
theorem dX9_fieldsOf_9 : decode cX9_fieldsOf 9 = .ok (.iload_n 2, 1) := by decide +kernel
theorem dX9_fieldsOf_10 : decode cX9_fieldsOf 10 = .ok (.aload_n 0, 1) := by decide +kernel
theorem dX9_fieldsOf_11 : decode cX9_fieldsOf 11 = .ok (.getfield 7, 3) := by decide +kernel
theorem dX9_fieldsOf_14 : decode cX9_fieldsOf 14 = .ok (.bipush 11, 2) := by decide +kernel
theorem dX9_fieldsOf_16 : decode cX9_fieldsOf 16 = .ok (.iload_n 3, 1) := by decide +kernel
theorem dX9_fieldsOf_17 : decode cX9_fieldsOf 17 = .ok (.iadd, 1) := by decide +kernel
theorem dX9_fieldsOf_18 : decode cX9_fieldsOf 18 = .ok (.iaload, 1) := by decide +kernel
theorem dX9_fieldsOf_19 : decode cX9_fieldsOf 19 = .ok (.iadd, 1) := by decide +kernel
theorem dX9_fieldsOf_20 : decode cX9_fieldsOf 20 = .ok (.istore_n 2, 1) := by decide +kernel
theorem dX9_fieldsOf_21 : decode cX9_fieldsOf 21 = .ok (.aload_n 0, 1) := by decide +kernel
theorem dX9_fieldsOf_22 : decode cX9_fieldsOf 22 = .ok (.getfield 7, 3) := by decide +kernel
theorem dX9_fieldsOf_25 : decode cX9_fieldsOf 25 = .ok (.iconst 1, 1) := by decide +kernel
theorem dX9_fieldsOf_26 : decode cX9_fieldsOf 26 = .ok (.iload_n 3, 1) := by decide +kernel
theorem dX9_fieldsOf_27 : decode cX9_fieldsOf 27 = .ok (.iadd, 1) := by decide +kernel
theorem dX9_fieldsOf_28 : decode cX9_fieldsOf 28 = .ok (.iaload, 1) := by decide +kernel
theorem dX9_fieldsOf_29 : decode cX9_fieldsOf 29 = .ok (.istore_n 3, 1) := by decide +kernel
theorem dX9_fieldsOf_30 : decode cX9_fieldsOf 30 = .ok (.goto (-26), 3) := by decide +kernel
theorem dX9_fieldsOf_33 : decode cX9_fieldsOf 33 = .ok (.iload_n 2, 1) := by decide +kernel
theorem dX9_fieldsOf_34 : decode cX9_fieldsOf 34 = .ok (.ireturn, 1) := by decide +kernel
theorem dX9_sizeOfClass_0 : decode cX9_sizeOfClass 0 = .ok (.bipush 12, 2) := by decide +kernel
theorem dX9_sizeOfClass_2 : decode cX9_sizeOfClass 2 = .ok (.iconst 4, 1) := by decide +kernel
theorem dX9_sizeOfClass_3 : decode cX9_sizeOfClass 3 = .ok (.aload_n 0, 1) := by decide +kernel
theorem dX9_sizeOfClass_4 : decode cX9_sizeOfClass 4 = .ok (.iload_n 1, 1) := by decide +kernel
theorem dX9_sizeOfClass_5 : decode cX9_sizeOfClass 5 = .ok (.invokevirtual 82, 3) := by decide +kernel
theorem dX9_sizeOfClass_8 : decode cX9_sizeOfClass 8 = .ok (.imul, 1) := by decide +kernel
theorem dX9_sizeOfClass_9 : decode cX9_sizeOfClass 9 = .ok (.iadd, 1) := by decide +kernel
theorem dX9_sizeOfClass_10 : decode cX9_sizeOfClass 10 = .ok (.istore_n 2, 1) := by decide +kernel
theorem dX9_sizeOfClass_11 : decode cX9_sizeOfClass 11 = .ok (.iload_n 1, 1) := by decide +kernel
theorem dX9_sizeOfClass_12 : decode cX9_sizeOfClass 12 = .ok (.istore_n 3, 1) := by decide +kernel
theorem dX9_sizeOfClass_13 : decode cX9_sizeOfClass 13 = .ok (.iload_n 3, 1) := by decide +kernel
theorem dX9_sizeOfClass_14 : decode cX9_sizeOfClass 14 = .ok (.iconst (-1), 1) := by decide +kernel
theorem dX9_sizeOfClass_15 : decode cX9_sizeOfClass 15 = .ok (.if_icmp .eq 27, 3) := by decide +kernel
theorem dX9_sizeOfClass_18 : decode cX9_sizeOfClass 18 = .ok (.iload_n 2, 1) := by decide +kernel
theorem dX9_sizeOfClass_19 : decode cX9_sizeOfClass 19 = .ok (.aload_n 0, 1) := by decide +kernel
theorem dX9_sizeOfClass_20 : decode cX9_sizeOfClass 20 = .ok (.getfield 7, 3) := by decide +kernel
theorem dX9_sizeOfClass_23 : decode cX9_sizeOfClass 23 = .ok (.bipush 21, 2) := by decide +kernel
theorem dX9_sizeOfClass_25 : decode cX9_sizeOfClass 25 = .ok (.iload_n 3, 1) := by decide +kernel
theorem dX9_sizeOfClass_26 : decode cX9_sizeOfClass 26 = .ok (.iadd, 1) := by decide +kernel
theorem dX9_sizeOfClass_27 : decode cX9_sizeOfClass 27 = .ok (.iaload, 1) := by decide +kernel
theorem dX9_sizeOfClass_28 : decode cX9_sizeOfClass 28 = .ok (.iadd, 1) := by decide +kernel
theorem dX9_sizeOfClass_29 : decode cX9_sizeOfClass 29 = .ok (.istore_n 2, 1) := by decide +kernel
theorem dX9_sizeOfClass_30 : decode cX9_sizeOfClass 30 = .ok (.aload_n 0, 1) := by decide +kernel
theorem dX9_sizeOfClass_31 : decode cX9_sizeOfClass 31 = .ok (.getfield 7, 3) := by decide +kernel
theorem dX9_sizeOfClass_34 : decode cX9_sizeOfClass 34 = .ok (.iconst 1, 1) := by decide +kernel
theorem dX9_sizeOfClass_35 : decode cX9_sizeOfClass 35 = .ok (.iload_n 3, 1) := by decide +kernel
theorem dX9_sizeOfClass_36 : decode cX9_sizeOfClass 36 = .ok (.iadd, 1) := by decide +kernel
theorem dX9_sizeOfClass_37 : decode cX9_sizeOfClass 37 = .ok (.iaload, 1) := by decide +kernel
theorem dX9_sizeOfClass_38 : decode cX9_sizeOfClass 38 = .ok (.istore_n 3, 1) := by decide +kernel
theorem dX9_sizeOfClass_39 : decode cX9_sizeOfClass 39 = .ok (.goto (-26), 3) := by decide +kernel
theorem dX9_sizeOfClass_42 : decode cX9_sizeOfClass 42 = .ok (.iload_n 2, 1) := by decide +kernel
theorem dX9_sizeOfClass_43 : decode cX9_sizeOfClass 43 = .ok (.bipush 7, 2) := by decide +kernel
theorem dX9_sizeOfClass_45 : decode cX9_sizeOfClass 45 = .ok (.iadd, 1) := by decide +kernel
theorem dX9_sizeOfClass_46 : decode cX9_sizeOfClass 46 = .ok (.bipush 8, 2) := by decide +kernel
theorem dX9_sizeOfClass_48 : decode cX9_sizeOfClass 48 = .ok (.idiv, 1) := by decide +kernel
theorem dX9_sizeOfClass_49 : decode cX9_sizeOfClass 49 = .ok (.bipush 8, 2) := by decide +kernel
theorem dX9_sizeOfClass_51 : decode cX9_sizeOfClass 51 = .ok (.imul, 1) := by decide +kernel
theorem dX9_sizeOfClass_52 : decode cX9_sizeOfClass 52 = .ok (.ireturn, 1) := by decide +kernel
theorem dX9_isBelow_0 : decode cX9_isBelow 0 = .ok (.iconst 0, 1) := by decide +kernel
theorem dX9_isBelow_1 : decode cX9_isBelow 1 = .ok (.istore_n 3, 1) := by decide +kernel
theorem dX9_isBelow_2 : decode cX9_isBelow 2 = .ok (.iload_n 1, 1) := by decide +kernel
theorem dX9_isBelow_3 : decode cX9_isBelow 3 = .ok (.istore 4, 2) := by decide +kernel
theorem dX9_isBelow_5 : decode cX9_isBelow 5 = .ok (.iload 4, 2) := by decide +kernel
theorem dX9_isBelow_7 : decode cX9_isBelow 7 = .ok (.iconst (-1), 1) := by decide +kernel
theorem dX9_isBelow_8 : decode cX9_isBelow 8 = .ok (.if_icmp .eq 33, 3) := by decide +kernel
theorem dX9_isBelow_11 : decode cX9_isBelow 11 = .ok (.iload_n 3, 1) := by decide +kernel
theorem dX9_isBelow_12 : decode cX9_isBelow 12 = .ok (.ifCond .ne 9, 3) := by decide +kernel
theorem dX9_isBelow_15 : decode cX9_isBelow 15 = .ok (.iload 4, 2) := by decide +kernel
theorem dX9_isBelow_17 : decode cX9_isBelow 17 = .ok (.iload_n 2, 1) := by decide +kernel
theorem dX9_isBelow_18 : decode cX9_isBelow 18 = .ok (.if_icmp .ne 7, 3) := by decide +kernel
theorem dX9_isBelow_21 : decode cX9_isBelow 21 = .ok (.iconst 1, 1) := by decide +kernel
theorem dX9_isBelow_22 : decode cX9_isBelow 22 = .ok (.goto 4, 3) := by decide +kernel
theorem dX9_isBelow_25 : decode cX9_isBelow 25 = .ok (.iconst 0, 1) := by decide +kernel
theorem dX9_isBelow_26 : decode cX9_isBelow 26 = .ok (.istore_n 3, 1) := by decide +kernel
theorem dX9_isBelow_27 : decode cX9_isBelow 27 = .ok (.aload_n 0, 1) := by decide +kernel
theorem dX9_isBelow_28 : decode cX9_isBelow 28 = .ok (.getfield 7, 3) := by decide +kernel
theorem dX9_isBelow_31 : decode cX9_isBelow 31 = .ok (.iconst 1, 1) := by decide +kernel
theorem dX9_isBelow_32 : decode cX9_isBelow 32 = .ok (.iload 4, 2) := by decide +kernel
theorem dX9_isBelow_34 : decode cX9_isBelow 34 = .ok (.iadd, 1) := by decide +kernel
theorem dX9_isBelow_35 : decode cX9_isBelow 35 = .ok (.iaload, 1) := by decide +kernel
theorem dX9_isBelow_36 : decode cX9_isBelow 36 = .ok (.istore 4, 2) := by decide +kernel
theorem dX9_isBelow_38 : decode cX9_isBelow 38 = .ok (.goto (-33), 3) := by decide +kernel
theorem dX9_isBelow_41 : decode cX9_isBelow 41 = .ok (.iload_n 3, 1) := by decide +kernel
theorem dX9_isBelow_42 : decode cX9_isBelow 42 = .ok (.ireturn, 1) := by decide +kernel
theorem dX9_defineClass_0 : decode cX9_defineClass 0 = .ok (.aload_n 0, 1) := by decide +kernel
theorem dX9_defineClass_1 : decode cX9_defineClass 1 = .ok (.iload_n 1, 1) := by decide +kernel
theorem dX9_defineClass_2 : decode cX9_defineClass 2 = .ok (.invokevirtual 86, 3) := by decide +kernel
theorem dX9_defineClass_5 : decode cX9_defineClass 5 = .ok (.istore 4, 2) := by decide +kernel
theorem dX9_defineClass_7 : decode cX9_defineClass 7 = .ok (.iload 4, 2) := by decide +kernel
theorem dX9_defineClass_9 : decode cX9_defineClass 9 = .ok (.ifCond .eq 37, 3) := by decide +kernel
theorem dX9_defineClass_12 : decode cX9_defineClass 12 = .ok (.iload_n 2, 1) := by decide +kernel
theorem dX9_defineClass_13 : decode cX9_defineClass 13 = .ok (.iconst 0, 1) := by decide +kernel
theorem dX9_defineClass_14 : decode cX9_defineClass 14 = .ok (.iconst 3, 1) := by decide +kernel
theorem dX9_defineClass_15 : decode cX9_defineClass 15 = .ok (.invokestatic 78, 3) := by decide +kernel
theorem dX9_defineClass_18 : decode cX9_defineClass 18 = .ok (.ifCond .eq 28, 3) := by decide +kernel
theorem dX9_defineClass_21 : decode cX9_defineClass 21 = .ok (.iload_n 3, 1) := by decide +kernel
theorem dX9_defineClass_22 : decode cX9_defineClass 22 = .ok (.iconst 0, 1) := by decide +kernel
theorem dX9_defineClass_23 : decode cX9_defineClass 23 = .ok (.bipush 40, 2) := by decide +kernel
theorem dX9_defineClass_25 : decode cX9_defineClass 25 = .ok (.invokestatic 78, 3) := by decide +kernel
theorem dX9_defineClass_28 : decode cX9_defineClass 28 = .ok (.ifCond .eq 18, 3) := by decide +kernel
theorem dX9_defineClass_31 : decode cX9_defineClass 31 = .ok (.aload_n 0, 1) := by decide +kernel
theorem dX9_defineClass_32 : decode cX9_defineClass 32 = .ok (.iload_n 1, 1) := by decide +kernel
theorem dX9_defineClass_33 : decode cX9_defineClass 33 = .ok (.invokevirtual 82, 3) := by decide +kernel
theorem dX9_defineClass_36 : decode cX9_defineClass 36 = .ok (.iload_n 2, 1) := by decide +kernel
theorem dX9_defineClass_37 : decode cX9_defineClass 37 = .ok (.iadd, 1) := by decide +kernel
theorem dX9_defineClass_38 : decode cX9_defineClass 38 = .ok (.iconst 5, 1) := by decide +kernel
theorem dX9_defineClass_39 : decode cX9_defineClass 39 = .ok (.if_icmp .gt 7, 3) := by decide +kernel
theorem dX9_defineClass_42 : decode cX9_defineClass 42 = .ok (.iconst 1, 1) := by decide +kernel
theorem dX9_defineClass_43 : decode cX9_defineClass 43 = .ok (.goto 4, 3) := by decide +kernel
theorem dX9_defineClass_46 : decode cX9_defineClass 46 = .ok (.iconst 0, 1) := by decide +kernel
theorem dX9_defineClass_47 : decode cX9_defineClass 47 = .ok (.istore 5, 2) := by decide +kernel
theorem dX9_defineClass_49 : decode cX9_defineClass 49 = .ok (.aload_n 0, 1) := by decide +kernel
theorem dX9_defineClass_50 : decode cX9_defineClass 50 = .ok (.iload 4, 2) := by decide +kernel
theorem dX9_defineClass_52 : decode cX9_defineClass 52 = .ok (.ifCond .ne 7, 3) := by decide +kernel
theorem dX9_defineClass_55 : decode cX9_defineClass 55 = .ok (.iconst 1, 1) := by decide +kernel
theorem dX9_defineClass_56 : decode cX9_defineClass 56 = .ok (.goto 28, 3) := by decide +kernel
theorem dX9_defineClass_59 : decode cX9_defineClass 59 = .ok (.iload 5, 2) := by decide +kernel
theorem dX9_defineClass_61 : decode cX9_defineClass 61 = .ok (.ifCond .ne 7, 3) := by decide +kernel
theorem dX9_defineClass_64 : decode cX9_defineClass 64 = .ok (.iconst 2, 1) := by decide +kernel
theorem dX9_defineClass_65 : decode cX9_defineClass 65 = .ok (.goto 19, 3) := by decide +kernel
theorem dX9_defineClass_68 : decode cX9_defineClass 68 = .ok (.aload_n 0, 1) := by decide +kernel
theorem dX9_defineClass_69 : decode cX9_defineClass 69 = .ok (.getfield 7, 3) := by decide +kernel
theorem dX9_defineClass_72 : decode cX9_defineClass 72 = .ok (.iconst 0, 1) := by decide +kernel
theorem dX9_defineClass_73 : decode cX9_defineClass 73 = .ok (.iaload, 1) := by decide +kernel
theorem dX9_defineClass_74 : decode cX9_defineClass 74 = .ok (.bipush 10, 2) := by decide +kernel
theorem dX9_defineClass_76 : decode cX9_defineClass 76 = .ok (.if_icmp .ne 7, 3) := by decide +kernel
theorem dX9_defineClass_79 : decode cX9_defineClass 79 = .ok (.iconst 3, 1) := by decide +kernel
theorem dX9_defineClass_80 : decode cX9_defineClass 80 = .ok (.goto 4, 3) := by decide +kernel
theorem dX9_defineClass_83 : decode cX9_defineClass 83 = .ok (.iconst 0, 1) := by decide +kernel
theorem dX9_defineClass_84 : decode cX9_defineClass 84 = .ok (.invokevirtual 74, 3) := by decide +kernel
theorem dX9_defineClass_87 : decode cX9_defineClass 87 = .ok (.ifCond .eq 5, 3) := by decide +kernel
theorem dX9_defineClass_90 : decode cX9_defineClass 90 = .ok (.iconst 0, 1) := by decide +kernel
theorem dX9_defineClass_91 : decode cX9_defineClass 91 = .ok (.ireturn, 1) := by decide +kernel
theorem dX9_defineClass_92 : decode cX9_defineClass 92 = .ok (.aload_n 0, 1) := by decide +kernel
theorem dX9_defineClass_93 : decode cX9_defineClass 93 = .ok (.invokevirtual 89, 3) := by decide +kernel
theorem dX9_defineClass_96 : decode cX9_defineClass 96 = .ok (.aload_n 0, 1) := by decide +kernel
theorem dX9_defineClass_97 : decode cX9_defineClass 97 = .ok (.getfield 7, 3) := by decide +kernel
theorem dX9_defineClass_100 : decode cX9_defineClass 100 = .ok (.iconst 0, 1) := by decide +kernel
theorem dX9_defineClass_101 : decode cX9_defineClass 101 = .ok (.iaload, 1) := by decide +kernel
theorem dX9_defineClass_102 : decode cX9_defineClass 102 = .ok (.istore 6, 2) := by decide +kernel
theorem dX9_defineClass_104 : decode cX9_defineClass 104 = .ok (.aload_n 0, 1) := by decide +kernel
theorem dX9_defineClass_105 : decode cX9_defineClass 105 = .ok (.getfield 7, 3) := by decide +kernel
theorem dX9_defineClass_108 : decode cX9_defineClass 108 = .ok (.iconst 0, 1) := by decide +kernel
theorem dX9_defineClass_109 : decode cX9_defineClass 109 = .ok (.dup2, 1) := by decide +kernel
theorem dX9_defineClass_110 : decode cX9_defineClass 110 = .ok (.iaload, 1) := by decide +kernel
theorem dX9_defineClass_111 : decode cX9_defineClass 111 = .ok (.iconst 1, 1) := by decide +kernel
theorem dX9_defineClass_112 : decode cX9_defineClass 112 = .ok (.iadd, 1) := by decide +kernel
theorem dX9_defineClass_113 : decode cX9_defineClass 113 = .ok (.iastore, 1) := by decide +kernel
theorem dX9_defineClass_114 : decode cX9_defineClass 114 = .ok (.aload_n 0, 1) := by decide +kernel
theorem dX9_defineClass_115 : decode cX9_defineClass 115 = .ok (.getfield 7, 3) := by decide +kernel
theorem dX9_defineClass_118 : decode cX9_defineClass 118 = .ok (.iconst 1, 1) := by decide +kernel
theorem dX9_defineClass_119 : decode cX9_defineClass 119 = .ok (.iload 6, 2) := by decide +kernel
theorem dX9_defineClass_121 : decode cX9_defineClass 121 = .ok (.iadd, 1) := by decide +kernel
theorem dX9_defineClass_122 : decode cX9_defineClass 122 = .ok (.iload_n 1, 1) := by decide +kernel
theorem dX9_defineClass_123 : decode cX9_defineClass 123 = .ok (.iastore, 1) := by decide +kernel
theorem dX9_defineClass_124 : decode cX9_defineClass 124 = .ok (.aload_n 0, 1) := by decide +kernel
theorem dX9_defineClass_125 : decode cX9_defineClass 125 = .ok (.getfield 7, 3) := by decide +kernel
theorem dX9_defineClass_128 : decode cX9_defineClass 128 = .ok (.bipush 11, 2) := by decide +kernel
theorem dX9_defineClass_130 : decode cX9_defineClass 130 = .ok (.iload 6, 2) := by decide +kernel
theorem dX9_defineClass_132 : decode cX9_defineClass 132 = .ok (.iadd, 1) := by decide +kernel
theorem dX9_defineClass_133 : decode cX9_defineClass 133 = .ok (.iload_n 2, 1) := by decide +kernel
theorem dX9_defineClass_134 : decode cX9_defineClass 134 = .ok (.iastore, 1) := by decide +kernel
theorem dX9_defineClass_135 : decode cX9_defineClass 135 = .ok (.aload_n 0, 1) := by decide +kernel
theorem dX9_defineClass_136 : decode cX9_defineClass 136 = .ok (.getfield 7, 3) := by decide +kernel
theorem dX9_defineClass_139 : decode cX9_defineClass 139 = .ok (.bipush 21, 2) := by decide +kernel
theorem dX9_defineClass_141 : decode cX9_defineClass 141 = .ok (.iload 6, 2) := by decide +kernel
theorem dX9_defineClass_143 : decode cX9_defineClass 143 = .ok (.iadd, 1) := by decide +kernel
theorem dX9_defineClass_144 : decode cX9_defineClass 144 = .ok (.iload_n 3, 1) := by decide +kernel
theorem dX9_defineClass_145 : decode cX9_defineClass 145 = .ok (.iastore, 1) := by decide +kernel
theorem dX9_defineClass_146 : decode cX9_defineClass 146 = .ok (.iload 6, 2) := by decide +kernel
theorem dX9_defineClass_148 : decode cX9_defineClass 148 = .ok (.ireturn, 1) := by decide +kernel
theorem dX9_classes_0 : decode cX9_classes 0 = .ok (.aload_n 0, 1) := by decide +kernel
theorem dX9_classes_1 : decode cX9_classes 1 = .ok (.iconst 0, 1) := by decide +kernel
theorem dX9_classes_2 : decode cX9_classes 2 = .ok (.putfield 63, 3) := by decide +kernel
theorem dX9_classes_5 : decode cX9_classes 5 = .ok (.aload_n 0, 1) := by decide +kernel
theorem dX9_classes_6 : decode cX9_classes 6 = .ok (.getfield 7, 3) := by decide +kernel
theorem dX9_classes_9 : decode cX9_classes 9 = .ok (.iconst 0, 1) := by decide +kernel
theorem dX9_classes_10 : decode cX9_classes 10 = .ok (.iaload, 1) := by decide +kernel
theorem dX9_classes_11 : decode cX9_classes 11 = .ok (.ireturn, 1) := by decide +kernel
theorem dX9_classBy_0 : decode cX9_classBy 0 = .ok (.iload_n 2, 1) := by decide +kernel
theorem dX9_classBy_1 : decode cX9_classBy 1 = .ok (.ifCond .ne 12, 3) := by decide +kernel
theorem dX9_classBy_4 : decode cX9_classBy 4 = .ok (.aload_n 0, 1) := by decide +kernel
theorem dX9_classBy_5 : decode cX9_classBy 5 = .ok (.getfield 7, 3) := by decide +kernel
theorem dX9_classBy_8 : decode cX9_classBy 8 = .ok (.iconst 1, 1) := by decide +kernel
theorem dX9_classBy_9 : decode cX9_classBy 9 = .ok (.iload_n 1, 1) := by decide +kernel
theorem dX9_classBy_10 : decode cX9_classBy 10 = .ok (.iadd, 1) := by decide +kernel
theorem dX9_classBy_11 : decode cX9_classBy 11 = .ok (.iaload, 1) := by decide +kernel
theorem dX9_classBy_12 : decode cX9_classBy 12 = .ok (.ireturn, 1) := by decide +kernel
theorem dX9_classBy_13 : decode cX9_classBy 13 = .ok (.iload_n 2, 1) := by decide +kernel
theorem dX9_classBy_14 : decode cX9_classBy 14 = .ok (.iconst 1, 1) := by decide +kernel
theorem dX9_classBy_15 : decode cX9_classBy 15 = .ok (.if_icmp .ne 9, 3) := by decide +kernel
theorem dX9_classBy_18 : decode cX9_classBy 18 = .ok (.aload_n 0, 1) := by decide +kernel
theorem dX9_classBy_19 : decode cX9_classBy 19 = .ok (.iload_n 1, 1) := by decide +kernel
theorem dX9_classBy_20 : decode cX9_classBy 20 = .ok (.invokevirtual 82, 3) := by decide +kernel
theorem dX9_classBy_23 : decode cX9_classBy 23 = .ok (.ireturn, 1) := by decide +kernel
theorem dX9_classBy_24 : decode cX9_classBy 24 = .ok (.iload_n 2, 1) := by decide +kernel
theorem dX9_classBy_25 : decode cX9_classBy 25 = .ok (.iconst 2, 1) := by decide +kernel
theorem dX9_classBy_26 : decode cX9_classBy 26 = .ok (.if_icmp .ne 9, 3) := by decide +kernel
theorem dX9_classBy_29 : decode cX9_classBy 29 = .ok (.aload_n 0, 1) := by decide +kernel
theorem dX9_classBy_30 : decode cX9_classBy 30 = .ok (.iload_n 1, 1) := by decide +kernel
theorem dX9_classBy_31 : decode cX9_classBy 31 = .ok (.invokevirtual 92, 3) := by decide +kernel
theorem dX9_classBy_34 : decode cX9_classBy 34 = .ok (.ireturn, 1) := by decide +kernel
theorem dX9_classBy_35 : decode cX9_classBy 35 = .ok (.iconst 0, 1) := by decide +kernel
theorem dX9_classBy_36 : decode cX9_classBy 36 = .ok (.istore_n 3, 1) := by decide +kernel
theorem dX9_classBy_37 : decode cX9_classBy 37 = .ok (.iconst 0, 1) := by decide +kernel
theorem dX9_classBy_38 : decode cX9_classBy 38 = .ok (.istore 4, 2) := by decide +kernel
theorem dX9_classBy_40 : decode cX9_classBy 40 = .ok (.iload 4, 2) := by decide +kernel
theorem dX9_classBy_42 : decode cX9_classBy 42 = .ok (.aload_n 0, 1) := by decide +kernel
theorem dX9_classBy_43 : decode cX9_classBy 43 = .ok (.getfield 7, 3) := by decide +kernel
theorem dX9_classBy_46 : decode cX9_classBy 46 = .ok (.iconst 0, 1) := by decide +kernel
theorem dX9_classBy_47 : decode cX9_classBy 47 = .ok (.iaload, 1) := by decide +kernel
theorem dX9_classBy_48 : decode cX9_classBy 48 = .ok (.if_icmp .ge 30, 3) := by decide +kernel
theorem dX9_classBy_51 : decode cX9_classBy 51 = .ok (.iload_n 3, 1) := by decide +kernel
theorem dX9_classBy_52 : decode cX9_classBy 52 = .ok (.aload_n 0, 1) := by decide +kernel
theorem dX9_classBy_53 : decode cX9_classBy 53 = .ok (.getfield 7, 3) := by decide +kernel
theorem dX9_classBy_56 : decode cX9_classBy 56 = .ok (.iconst 1, 1) := by decide +kernel
theorem dX9_classBy_57 : decode cX9_classBy 57 = .ok (.iload 4, 2) := by decide +kernel
theorem dX9_classBy_59 : decode cX9_classBy 59 = .ok (.iadd, 1) := by decide +kernel
theorem dX9_classBy_60 : decode cX9_classBy 60 = .ok (.iaload, 1) := by decide +kernel
theorem dX9_classBy_61 : decode cX9_classBy 61 = .ok (.iload_n 1, 1) := by decide +kernel
theorem dX9_classBy_62 : decode cX9_classBy 62 = .ok (.if_icmp .ne 7, 3) := by decide +kernel
theorem dX9_classBy_65 : decode cX9_classBy 65 = .ok (.iconst 1, 1) := by decide +kernel
theorem dX9_classBy_66 : decode cX9_classBy 66 = .ok (.goto 4, 3) := by decide +kernel
theorem dX9_classBy_69 : decode cX9_classBy 69 = .ok (.iconst 0, 1) := by decide +kernel
theorem dX9_classBy_70 : decode cX9_classBy 70 = .ok (.iadd, 1) := by decide +kernel
theorem dX9_classBy_71 : decode cX9_classBy 71 = .ok (.istore_n 3, 1) := by decide +kernel
theorem dX9_classBy_72 : decode cX9_classBy 72 = .ok (.iinc 4 1, 3) := by decide +kernel
theorem dX9_classBy_75 : decode cX9_classBy 75 = .ok (.goto (-35), 3) := by decide +kernel
theorem dX9_classBy_78 : decode cX9_classBy 78 = .ok (.iload_n 3, 1) := by decide +kernel
theorem dX9_classBy_79 : decode cX9_classBy 79 = .ok (.ireturn, 1) := by decide +kernel
theorem dX9_classInfo_0 : decode cX9_classInfo 0 = .ok (.aload_n 0, 1) := by decide +kernel
theorem dX9_classInfo_1 : decode cX9_classInfo 1 = .ok (.aload_n 0, 1) := by decide +kernel
theorem dX9_classInfo_2 : decode cX9_classInfo 2 = .ok (.iload_n 1, 1) := by decide +kernel
theorem dX9_classInfo_3 : decode cX9_classInfo 3 = .ok (.invokevirtual 86, 3) := by decide +kernel
theorem dX9_classInfo_6 : decode cX9_classInfo 6 = .ok (.ifCond .ne 7, 3) := by decide +kernel
theorem dX9_classInfo_9 : decode cX9_classInfo 9 = .ok (.iconst 1, 1) := by decide +kernel
theorem dX9_classInfo_10 : decode cX9_classInfo 10 = .ok (.goto 17, 3) := by decide +kernel
theorem dX9_classInfo_13 : decode cX9_classInfo 13 = .ok (.iload_n 2, 1) := by decide +kernel
theorem dX9_classInfo_14 : decode cX9_classInfo 14 = .ok (.iconst 0, 1) := by decide +kernel
theorem dX9_classInfo_15 : decode cX9_classInfo 15 = .ok (.iconst 3, 1) := by decide +kernel
theorem dX9_classInfo_16 : decode cX9_classInfo 16 = .ok (.invokestatic 78, 3) := by decide +kernel
theorem dX9_classInfo_19 : decode cX9_classInfo 19 = .ok (.ifCond .ne 7, 3) := by decide +kernel
theorem dX9_classInfo_22 : decode cX9_classInfo 22 = .ok (.iconst 2, 1) := by decide +kernel
theorem dX9_classInfo_23 : decode cX9_classInfo 23 = .ok (.goto 4, 3) := by decide +kernel
theorem dX9_classInfo_26 : decode cX9_classInfo 26 = .ok (.iconst 0, 1) := by decide +kernel
theorem dX9_classInfo_27 : decode cX9_classInfo 27 = .ok (.invokevirtual 74, 3) := by decide +kernel
theorem dX9_classInfo_30 : decode cX9_classInfo 30 = .ok (.ifCond .eq 7, 3) := by decide +kernel
theorem dX9_classInfo_33 : decode cX9_classInfo 33 = .ok (.iconst 0, 1) := by decide +kernel
theorem dX9_classInfo_34 : decode cX9_classInfo 34 = .ok (.goto 9, 3) := by decide +kernel
theorem dX9_classInfo_37 : decode cX9_classInfo 37 = .ok (.aload_n 0, 1) := by decide +kernel
theorem dX9_classInfo_38 : decode cX9_classInfo 38 = .ok (.iload_n 1, 1) := by decide +kernel
theorem dX9_classInfo_39 : decode cX9_classInfo 39 = .ok (.iload_n 2, 1) := by decide +kernel
theorem dX9_classInfo_40 : decode cX9_classInfo 40 = .ok (.invokevirtual 95, 3) := by decide +kernel
theorem dX9_classInfo_43 : decode cX9_classInfo 43 = .ok (.ireturn, 1) := by decide +kernel
theorem dX9_isSubclass_0 : decode cX9_isSubclass 0 = .ok (.aload_n 0, 1) := by decide +kernel
theorem dX9_isSubclass_1 : decode cX9_isSubclass 1 = .ok (.aload_n 0, 1) := by decide +kernel
theorem dX9_isSubclass_2 : decode cX9_isSubclass 2 = .ok (.iload_n 1, 1) := by decide +kernel
theorem dX9_isSubclass_3 : decode cX9_isSubclass 3 = .ok (.invokevirtual 86, 3) := by decide +kernel
theorem dX9_isSubclass_6 : decode cX9_isSubclass 6 = .ok (.ifCond .eq 15, 3) := by decide +kernel
theorem dX9_isSubclass_9 : decode cX9_isSubclass 9 = .ok (.aload_n 0, 1) := by decide +kernel
theorem dX9_isSubclass_10 : decode cX9_isSubclass 10 = .ok (.iload_n 2, 1) := by decide +kernel
theorem dX9_isSubclass_11 : decode cX9_isSubclass 11 = .ok (.invokevirtual 86, 3) := by decide +kernel
theorem dX9_isSubclass_14 : decode cX9_isSubclass 14 = .ok (.ifCond .eq 7, 3) := by decide +kernel
theorem dX9_isSubclass_17 : decode cX9_isSubclass 17 = .ok (.iconst 0, 1) := by decide +kernel
theorem dX9_isSubclass_18 : decode cX9_isSubclass 18 = .ok (.goto 4, 3) := by decide +kernel
theorem dX9_isSubclass_21 : decode cX9_isSubclass 21 = .ok (.iconst 1, 1) := by decide +kernel
theorem dX9_isSubclass_22 : decode cX9_isSubclass 22 = .ok (.invokevirtual 74, 3) := by decide +kernel
theorem dX9_isSubclass_25 : decode cX9_isSubclass 25 = .ok (.ifCond .ne 16, 3) := by decide +kernel
theorem dX9_isSubclass_28 : decode cX9_isSubclass 28 = .ok (.aload_n 0, 1) := by decide +kernel
theorem dX9_isSubclass_29 : decode cX9_isSubclass 29 = .ok (.iload_n 1, 1) := by decide +kernel
theorem dX9_isSubclass_30 : decode cX9_isSubclass 30 = .ok (.iload_n 2, 1) := by decide +kernel
theorem dX9_isSubclass_31 : decode cX9_isSubclass 31 = .ok (.invokevirtual 99, 3) := by decide +kernel
theorem dX9_isSubclass_34 : decode cX9_isSubclass 34 = .ok (.ifCond .eq 7, 3) := by decide +kernel
theorem dX9_isSubclass_37 : decode cX9_isSubclass 37 = .ok (.iconst 1, 1) := by decide +kernel
theorem dX9_isSubclass_38 : decode cX9_isSubclass 38 = .ok (.goto 4, 3) := by decide +kernel
theorem dX9_isSubclass_41 : decode cX9_isSubclass 41 = .ok (.iconst 0, 1) := by decide +kernel
theorem dX9_isSubclass_42 : decode cX9_isSubclass 42 = .ok (.ireturn, 1) := by decide +kernel
theorem dX9_at_0 : decode cX9_at 0 = .ok (.bipush 32, 2) := by decide +kernel
theorem dX9_at_2 : decode cX9_at 2 = .ok (.bipush 13, 2) := by decide +kernel
theorem dX9_at_4 : decode cX9_at 4 = .ok (.iload_n 0, 1) := by decide +kernel
theorem dX9_at_5 : decode cX9_at 5 = .ok (.imul, 1) := by decide +kernel
theorem dX9_at_6 : decode cX9_at 6 = .ok (.iadd, 1) := by decide +kernel
theorem dX9_at_7 : decode cX9_at 7 = .ok (.ireturn, 1) := by decide +kernel
theorem dX9_isObject_0 : decode cX9_isObject 0 = .ok (.iload_n 1, 1) := by decide +kernel
theorem dX9_isObject_1 : decode cX9_isObject 1 = .ok (.iconst 0, 1) := by decide +kernel
theorem dX9_isObject_2 : decode cX9_isObject 2 = .ok (.bipush 39, 2) := by decide +kernel
theorem dX9_isObject_4 : decode cX9_isObject 4 = .ok (.invokestatic 78, 3) := by decide +kernel
theorem dX9_isObject_7 : decode cX9_isObject 7 = .ok (.ifCond .eq 21, 3) := by decide +kernel
theorem dX9_isObject_10 : decode cX9_isObject 10 = .ok (.aload_n 0, 1) := by decide +kernel
theorem dX9_isObject_11 : decode cX9_isObject 11 = .ok (.getfield 7, 3) := by decide +kernel
theorem dX9_isObject_14 : decode cX9_isObject 14 = .ok (.iload_n 1, 1) := by decide +kernel
theorem dX9_isObject_15 : decode cX9_isObject 15 = .ok (.invokestatic 103, 3) := by decide +kernel
theorem dX9_isObject_18 : decode cX9_isObject 18 = .ok (.iconst 0, 1) := by decide +kernel
theorem dX9_isObject_19 : decode cX9_isObject 19 = .ok (.iadd, 1) := by decide +kernel
theorem dX9_isObject_20 : decode cX9_isObject 20 = .ok (.iaload, 1) := by decide +kernel
theorem dX9_isObject_21 : decode cX9_isObject 21 = .ok (.ifCond .eq 7, 3) := by decide +kernel
theorem dX9_isObject_24 : decode cX9_isObject 24 = .ok (.iconst 1, 1) := by decide +kernel
theorem dX9_isObject_25 : decode cX9_isObject 25 = .ok (.goto 4, 3) := by decide +kernel
theorem dX9_isObject_28 : decode cX9_isObject 28 = .ok (.iconst 0, 1) := by decide +kernel
theorem dX9_isObject_29 : decode cX9_isObject 29 = .ok (.ireturn, 1) := by decide +kernel
theorem dX9_isSlot_0 : decode cX9_isSlot 0 = .ok (.aload_n 0, 1) := by decide +kernel
theorem dX9_isSlot_1 : decode cX9_isSlot 1 = .ok (.iload_n 1, 1) := by decide +kernel
theorem dX9_isSlot_2 : decode cX9_isSlot 2 = .ok (.invokevirtual 106, 3) := by decide +kernel
theorem dX9_isSlot_5 : decode cX9_isSlot 5 = .ok (.ifCond .eq 28, 3) := by decide +kernel
theorem dX9_isSlot_8 : decode cX9_isSlot 8 = .ok (.iload_n 2, 1) := by decide +kernel
theorem dX9_isSlot_9 : decode cX9_isSlot 9 = .ok (.iconst 0, 1) := by decide +kernel
theorem dX9_isSlot_10 : decode cX9_isSlot 10 = .ok (.aload_n 0, 1) := by decide +kernel
theorem dX9_isSlot_11 : decode cX9_isSlot 11 = .ok (.getfield 7, 3) := by decide +kernel
theorem dX9_isSlot_14 : decode cX9_isSlot 14 = .ok (.iload_n 1, 1) := by decide +kernel
theorem dX9_isSlot_15 : decode cX9_isSlot 15 = .ok (.invokestatic 103, 3) := by decide +kernel
theorem dX9_isSlot_18 : decode cX9_isSlot 18 = .ok (.iconst 2, 1) := by decide +kernel
theorem dX9_isSlot_19 : decode cX9_isSlot 19 = .ok (.iadd, 1) := by decide +kernel
theorem dX9_isSlot_20 : decode cX9_isSlot 20 = .ok (.iaload, 1) := by decide +kernel
theorem dX9_isSlot_21 : decode cX9_isSlot 21 = .ok (.iconst 1, 1) := by decide +kernel
theorem dX9_isSlot_22 : decode cX9_isSlot 22 = .ok (.isub, 1) := by decide +kernel
theorem dX9_isSlot_23 : decode cX9_isSlot 23 = .ok (.invokestatic 78, 3) := by decide +kernel
theorem dX9_isSlot_26 : decode cX9_isSlot 26 = .ok (.ifCond .eq 7, 3) := by decide +kernel
theorem dX9_isSlot_29 : decode cX9_isSlot 29 = .ok (.iconst 1, 1) := by decide +kernel
theorem dX9_isSlot_30 : decode cX9_isSlot 30 = .ok (.goto 4, 3) := by decide +kernel
theorem dX9_isSlot_33 : decode cX9_isSlot 33 = .ok (.iconst 0, 1) := by decide +kernel
theorem dX9_isSlot_34 : decode cX9_isSlot 34 = .ok (.ireturn, 1) := by decide +kernel
theorem dX9_many_0 : decode cX9_many 0 = .ok (.iconst 0, 1) := by decide +kernel
theorem dX9_many_1 : decode cX9_many 1 = .ok (.istore_n 1, 1) := by decide +kernel
theorem dX9_many_2 : decode cX9_many 2 = .ok (.iconst 0, 1) := by decide +kernel
theorem dX9_many_3 : decode cX9_many 3 = .ok (.istore_n 2, 1) := by decide +kernel
theorem dX9_many_4 : decode cX9_many 4 = .ok (.iload_n 2, 1) := by decide +kernel
theorem dX9_many_5 : decode cX9_many 5 = .ok (.bipush 40, 2) := by decide +kernel
theorem dX9_many_7 : decode cX9_many 7 = .ok (.if_icmp .ge 25, 3) := by decide +kernel
theorem dX9_many_10 : decode cX9_many 10 = .ok (.iload_n 1, 1) := by decide +kernel
theorem dX9_many_11 : decode cX9_many 11 = .ok (.aload_n 0, 1) := by decide +kernel
theorem dX9_many_12 : decode cX9_many 12 = .ok (.iload_n 2, 1) := by decide +kernel
theorem dX9_many_13 : decode cX9_many 13 = .ok (.invokevirtual 106, 3) := by decide +kernel
theorem dX9_many_16 : decode cX9_many 16 = .ok (.ifCond .eq 7, 3) := by decide +kernel
theorem dX9_many_19 : decode cX9_many 19 = .ok (.iconst 1, 1) := by decide +kernel
theorem dX9_many_20 : decode cX9_many 20 = .ok (.goto 4, 3) := by decide +kernel
theorem dX9_many_23 : decode cX9_many 23 = .ok (.iconst 0, 1) := by decide +kernel
theorem dX9_many_24 : decode cX9_many 24 = .ok (.iadd, 1) := by decide +kernel
theorem dX9_many_25 : decode cX9_many 25 = .ok (.istore_n 1, 1) := by decide +kernel
theorem dX9_many_26 : decode cX9_many 26 = .ok (.iinc 2 1, 3) := by decide +kernel
theorem dX9_many_29 : decode cX9_many 29 = .ok (.goto (-25), 3) := by decide +kernel
theorem dX9_many_32 : decode cX9_many 32 = .ok (.iload_n 1, 1) := by decide +kernel
theorem dX9_many_33 : decode cX9_many 33 = .ok (.ireturn, 1) := by decide +kernel
theorem dX9_sizeOf_0 : decode cX9_sizeOf 0 = .ok (.aload_n 0, 1) := by decide +kernel
theorem dX9_sizeOf_1 : decode cX9_sizeOf 1 = .ok (.getfield 7, 3) := by decide +kernel
theorem dX9_sizeOf_4 : decode cX9_sizeOf 4 = .ok (.iload_n 1, 1) := by decide +kernel
theorem dX9_sizeOf_5 : decode cX9_sizeOf 5 = .ok (.invokestatic 103, 3) := by decide +kernel
theorem dX9_sizeOf_8 : decode cX9_sizeOf 8 = .ok (.iconst 1, 1) := by decide +kernel
theorem dX9_sizeOf_9 : decode cX9_sizeOf 9 = .ok (.iadd, 1) := by decide +kernel
theorem dX9_sizeOf_10 : decode cX9_sizeOf 10 = .ok (.iaload, 1) := by decide +kernel
theorem dX9_sizeOf_11 : decode cX9_sizeOf 11 = .ok (.istore_n 2, 1) := by decide +kernel
theorem dX9_sizeOf_12 : decode cX9_sizeOf 12 = .ok (.iload_n 2, 1) := by decide +kernel
theorem dX9_sizeOf_13 : decode cX9_sizeOf 13 = .ok (.bipush 11, 2) := by decide +kernel
theorem dX9_sizeOf_15 : decode cX9_sizeOf 15 = .ok (.if_icmp .ne 8, 3) := by decide +kernel
theorem dX9_sizeOf_18 : decode cX9_sizeOf 18 = .ok (.bipush 24, 2) := by decide +kernel
theorem dX9_sizeOf_20 : decode cX9_sizeOf 20 = .ok (.goto 42, 3) := by decide +kernel
theorem dX9_sizeOf_23 : decode cX9_sizeOf 23 = .ok (.iload_n 2, 1) := by decide +kernel
theorem dX9_sizeOf_24 : decode cX9_sizeOf 24 = .ok (.bipush 10, 2) := by decide +kernel
theorem dX9_sizeOf_26 : decode cX9_sizeOf 26 = .ok (.if_icmp .ne 31, 3) := by decide +kernel
theorem dX9_sizeOf_29 : decode cX9_sizeOf 29 = .ok (.bipush 16, 2) := by decide +kernel
theorem dX9_sizeOf_31 : decode cX9_sizeOf 31 = .ok (.iconst 4, 1) := by decide +kernel
theorem dX9_sizeOf_32 : decode cX9_sizeOf 32 = .ok (.aload_n 0, 1) := by decide +kernel
theorem dX9_sizeOf_33 : decode cX9_sizeOf 33 = .ok (.getfield 7, 3) := by decide +kernel
theorem dX9_sizeOf_36 : decode cX9_sizeOf 36 = .ok (.iload_n 1, 1) := by decide +kernel
theorem dX9_sizeOf_37 : decode cX9_sizeOf 37 = .ok (.invokestatic 103, 3) := by decide +kernel
theorem dX9_sizeOf_40 : decode cX9_sizeOf 40 = .ok (.iconst 2, 1) := by decide +kernel
theorem dX9_sizeOf_41 : decode cX9_sizeOf 41 = .ok (.iadd, 1) := by decide +kernel
theorem dX9_sizeOf_42 : decode cX9_sizeOf 42 = .ok (.iaload, 1) := by decide +kernel
theorem dX9_sizeOf_43 : decode cX9_sizeOf 43 = .ok (.imul, 1) := by decide +kernel
theorem dX9_sizeOf_44 : decode cX9_sizeOf 44 = .ok (.iadd, 1) := by decide +kernel
theorem dX9_sizeOf_45 : decode cX9_sizeOf 45 = .ok (.bipush 7, 2) := by decide +kernel
theorem dX9_sizeOf_47 : decode cX9_sizeOf 47 = .ok (.iadd, 1) := by decide +kernel
theorem dX9_sizeOf_48 : decode cX9_sizeOf 48 = .ok (.bipush 8, 2) := by decide +kernel
theorem dX9_sizeOf_50 : decode cX9_sizeOf 50 = .ok (.idiv, 1) := by decide +kernel
theorem dX9_sizeOf_51 : decode cX9_sizeOf 51 = .ok (.bipush 8, 2) := by decide +kernel
theorem dX9_sizeOf_53 : decode cX9_sizeOf 53 = .ok (.imul, 1) := by decide +kernel
theorem dX9_sizeOf_54 : decode cX9_sizeOf 54 = .ok (.goto 8, 3) := by decide +kernel
theorem dX9_sizeOf_57 : decode cX9_sizeOf 57 = .ok (.aload_n 0, 1) := by decide +kernel
theorem dX9_sizeOf_58 : decode cX9_sizeOf 58 = .ok (.iload_n 2, 1) := by decide +kernel
theorem dX9_sizeOf_59 : decode cX9_sizeOf 59 = .ok (.invokevirtual 92, 3) := by decide +kernel
theorem dX9_sizeOf_62 : decode cX9_sizeOf 62 = .ok (.ireturn, 1) := by decide +kernel
theorem dX9_sizes_0 : decode cX9_sizes 0 = .ok (.lconst 0, 1) := by decide +kernel
theorem dX9_sizes_1 : decode cX9_sizes 1 = .ok (.lstore_n 3, 1) := by decide +kernel
theorem dX9_sizes_2 : decode cX9_sizes 2 = .ok (.iconst 0, 1) := by decide +kernel
theorem dX9_sizes_3 : decode cX9_sizes 3 = .ok (.istore 5, 2) := by decide +kernel
theorem dX9_sizes_5 : decode cX9_sizes 5 = .ok (.iload 5, 2) := by decide +kernel
theorem dX9_sizes_7 : decode cX9_sizes 7 = .ok (.bipush 40, 2) := by decide +kernel
theorem dX9_sizes_9 : decode cX9_sizes 9 = .ok (.if_icmp .ge 34, 3) := by decide +kernel
theorem dX9_sizes_12 : decode cX9_sizes 12 = .ok (.lload_n 3, 1) := by decide +kernel
theorem dX9_sizes_13 : decode cX9_sizes 13 = .ok (.lload_n 1, 1) := by decide +kernel
theorem dX9_sizes_14 : decode cX9_sizes 14 = .ok (.iload 5, 2) := by decide +kernel
theorem dX9_sizes_16 : decode cX9_sizes 16 = .ok (.lshr, 1) := by decide +kernel
theorem dX9_sizes_17 : decode cX9_sizes 17 = .ok (.lconst 1, 1) := by decide +kernel
theorem dX9_sizes_18 : decode cX9_sizes 18 = .ok (.land, 1) := by decide +kernel
theorem dX9_sizes_19 : decode cX9_sizes 19 = .ok (.lconst 1, 1) := by decide +kernel
theorem dX9_sizes_20 : decode cX9_sizes 20 = .ok (.lcmp, 1) := by decide +kernel
theorem dX9_sizes_21 : decode cX9_sizes 21 = .ok (.ifCond .ne 13, 3) := by decide +kernel
theorem dX9_sizes_24 : decode cX9_sizes 24 = .ok (.aload_n 0, 1) := by decide +kernel
theorem dX9_sizes_25 : decode cX9_sizes 25 = .ok (.iload 5, 2) := by decide +kernel
theorem dX9_sizes_27 : decode cX9_sizes 27 = .ok (.invokevirtual 109, 3) := by decide +kernel
theorem dX9_sizes_30 : decode cX9_sizes 30 = .ok (.i2l, 1) := by decide +kernel
theorem dX9_sizes_31 : decode cX9_sizes 31 = .ok (.goto 4, 3) := by decide +kernel
theorem dX9_sizes_34 : decode cX9_sizes 34 = .ok (.lconst 0, 1) := by decide +kernel
theorem dX9_sizes_35 : decode cX9_sizes 35 = .ok (.ladd, 1) := by decide +kernel
theorem dX9_sizes_36 : decode cX9_sizes 36 = .ok (.lstore_n 3, 1) := by decide +kernel
theorem dX9_sizes_37 : decode cX9_sizes 37 = .ok (.iinc 5 1, 3) := by decide +kernel
theorem dX9_sizes_40 : decode cX9_sizes 40 = .ok (.goto (-35), 3) := by decide +kernel
theorem dX9_sizes_43 : decode cX9_sizes 43 = .ok (.lload_n 3, 1) := by decide +kernel
theorem dX9_sizes_44 : decode cX9_sizes 44 = .ok (.lreturn, 1) := by decide +kernel
theorem dX9_creates_0 : decode cX9_creates 0 = .ok (.iconst 0, 1) := by decide +kernel
theorem dX9_creates_1 : decode cX9_creates 1 = .ok (.istore_n 3, 1) := by decide +kernel
theorem dX9_creates_2 : decode cX9_creates 2 = .ok (.aload_n 0, 1) := by decide +kernel
theorem dX9_creates_3 : decode cX9_creates 3 = .ok (.iload_n 3, 1) := by decide +kernel
theorem dX9_creates_4 : decode cX9_creates 4 = .ok (.invokevirtual 106, 3) := by decide +kernel
theorem dX9_creates_7 : decode cX9_creates 7 = .ok (.ifCond .eq 9, 3) := by decide +kernel
theorem dX9_creates_10 : decode cX9_creates 10 = .ok (.iinc 3 1, 3) := by decide +kernel
theorem dX9_creates_13 : decode cX9_creates 13 = .ok (.goto (-11), 3) := by decide +kernel
theorem dX9_creates_16 : decode cX9_creates 16 = .ok (.aload_n 0, 1) := by decide +kernel
theorem dX9_creates_17 : decode cX9_creates 17 = .ok (.getfield 7, 3) := by decide +kernel
theorem dX9_creates_20 : decode cX9_creates 20 = .ok (.iload_n 3, 1) := by decide +kernel
theorem dX9_creates_21 : decode cX9_creates 21 = .ok (.invokestatic 103, 3) := by decide +kernel
theorem dX9_creates_24 : decode cX9_creates 24 = .ok (.iconst 0, 1) := by decide +kernel
theorem dX9_creates_25 : decode cX9_creates 25 = .ok (.iadd, 1) := by decide +kernel
theorem dX9_creates_26 : decode cX9_creates 26 = .ok (.aload_n 0, 1) := by decide +kernel
theorem dX9_creates_27 : decode cX9_creates 27 = .ok (.getfield 7, 3) := by decide +kernel
theorem dX9_creates_30 : decode cX9_creates 30 = .ok (.bipush 31, 2) := by decide +kernel
theorem dX9_creates_32 : decode cX9_creates 32 = .ok (.iaload, 1) := by decide +kernel
theorem dX9_creates_33 : decode cX9_creates 33 = .ok (.iastore, 1) := by decide +kernel
theorem dX9_creates_34 : decode cX9_creates 34 = .ok (.aload_n 0, 1) := by decide +kernel
theorem dX9_creates_35 : decode cX9_creates 35 = .ok (.getfield 7, 3) := by decide +kernel
theorem dX9_creates_38 : decode cX9_creates 38 = .ok (.bipush 31, 2) := by decide +kernel
theorem dX9_creates_40 : decode cX9_creates 40 = .ok (.dup2, 1) := by decide +kernel
theorem dX9_creates_41 : decode cX9_creates 41 = .ok (.iaload, 1) := by decide +kernel
theorem dX9_creates_42 : decode cX9_creates 42 = .ok (.iconst 1, 1) := by decide +kernel
theorem dX9_creates_43 : decode cX9_creates 43 = .ok (.iadd, 1) := by decide +kernel
theorem dX9_creates_44 : decode cX9_creates 44 = .ok (.iastore, 1) := by decide +kernel
theorem dX9_creates_45 : decode cX9_creates 45 = .ok (.aload_n 0, 1) := by decide +kernel
theorem dX9_creates_46 : decode cX9_creates 46 = .ok (.getfield 7, 3) := by decide +kernel
theorem dX9_creates_49 : decode cX9_creates 49 = .ok (.iload_n 3, 1) := by decide +kernel
theorem dX9_creates_50 : decode cX9_creates 50 = .ok (.invokestatic 103, 3) := by decide +kernel
theorem dX9_creates_53 : decode cX9_creates 53 = .ok (.iconst 1, 1) := by decide +kernel
theorem dX9_creates_54 : decode cX9_creates 54 = .ok (.iadd, 1) := by decide +kernel
theorem dX9_creates_55 : decode cX9_creates 55 = .ok (.iload_n 1, 1) := by decide +kernel
theorem dX9_creates_56 : decode cX9_creates 56 = .ok (.iastore, 1) := by decide +kernel
theorem dX9_creates_57 : decode cX9_creates 57 = .ok (.aload_n 0, 1) := by decide +kernel
theorem dX9_creates_58 : decode cX9_creates 58 = .ok (.getfield 7, 3) := by decide +kernel
theorem dX9_creates_61 : decode cX9_creates 61 = .ok (.iload_n 3, 1) := by decide +kernel
theorem dX9_creates_62 : decode cX9_creates 62 = .ok (.invokestatic 103, 3) := by decide +kernel
theorem dX9_creates_65 : decode cX9_creates 65 = .ok (.iconst 2, 1) := by decide +kernel
theorem dX9_creates_66 : decode cX9_creates 66 = .ok (.iadd, 1) := by decide +kernel
theorem dX9_creates_67 : decode cX9_creates 67 = .ok (.iload_n 2, 1) := by decide +kernel
theorem dX9_creates_68 : decode cX9_creates 68 = .ok (.iastore, 1) := by decide +kernel
theorem dX9_creates_69 : decode cX9_creates 69 = .ok (.aload_n 0, 1) := by decide +kernel
theorem dX9_creates_70 : decode cX9_creates 70 = .ok (.getfield 7, 3) := by decide +kernel
theorem dX9_creates_73 : decode cX9_creates 73 = .ok (.iload_n 3, 1) := by decide +kernel
theorem dX9_creates_74 : decode cX9_creates 74 = .ok (.invokestatic 103, 3) := by decide +kernel
theorem dX9_creates_77 : decode cX9_creates 77 = .ok (.iconst 3, 1) := by decide +kernel
theorem dX9_creates_78 : decode cX9_creates 78 = .ok (.iadd, 1) := by decide +kernel
theorem dX9_creates_79 : decode cX9_creates 79 = .ok (.iconst 0, 1) := by decide +kernel
theorem dX9_creates_80 : decode cX9_creates 80 = .ok (.iastore, 1) := by decide +kernel
theorem dX9_creates_81 : decode cX9_creates 81 = .ok (.aload_n 0, 1) := by decide +kernel
theorem dX9_creates_82 : decode cX9_creates 82 = .ok (.getfield 7, 3) := by decide +kernel
theorem dX9_creates_85 : decode cX9_creates 85 = .ok (.iload_n 3, 1) := by decide +kernel
theorem dX9_creates_86 : decode cX9_creates 86 = .ok (.invokestatic 103, 3) := by decide +kernel
theorem dX9_creates_89 : decode cX9_creates 89 = .ok (.iconst 4, 1) := by decide +kernel
theorem dX9_creates_90 : decode cX9_creates 90 = .ok (.iadd, 1) := by decide +kernel
theorem dX9_creates_91 : decode cX9_creates 91 = .ok (.iconst 0, 1) := by decide +kernel
theorem dX9_creates_92 : decode cX9_creates 92 = .ok (.iastore, 1) := by decide +kernel
theorem dX9_creates_93 : decode cX9_creates 93 = .ok (.iconst 0, 1) := by decide +kernel
theorem dX9_creates_94 : decode cX9_creates 94 = .ok (.istore 4, 2) := by decide +kernel
theorem dX9_creates_96 : decode cX9_creates 96 = .ok (.iload 4, 2) := by decide +kernel
theorem dX9_creates_98 : decode cX9_creates 98 = .ok (.bipush 8, 2) := by decide +kernel
theorem dX9_creates_100 : decode cX9_creates 100 = .ok (.if_icmp .ge 24, 3) := by decide +kernel
theorem dX9_creates_103 : decode cX9_creates 103 = .ok (.aload_n 0, 1) := by decide +kernel
theorem dX9_creates_104 : decode cX9_creates 104 = .ok (.getfield 7, 3) := by decide +kernel
theorem dX9_creates_107 : decode cX9_creates 107 = .ok (.iload_n 3, 1) := by decide +kernel
theorem dX9_creates_108 : decode cX9_creates 108 = .ok (.invokestatic 103, 3) := by decide +kernel
theorem dX9_creates_111 : decode cX9_creates 111 = .ok (.iconst 5, 1) := by decide +kernel
theorem dX9_creates_112 : decode cX9_creates 112 = .ok (.iadd, 1) := by decide +kernel
theorem dX9_creates_113 : decode cX9_creates 113 = .ok (.iload 4, 2) := by decide +kernel
theorem dX9_creates_115 : decode cX9_creates 115 = .ok (.iadd, 1) := by decide +kernel
theorem dX9_creates_116 : decode cX9_creates 116 = .ok (.iconst (-1), 1) := by decide +kernel
theorem dX9_creates_117 : decode cX9_creates 117 = .ok (.iastore, 1) := by decide +kernel
theorem dX9_creates_118 : decode cX9_creates 118 = .ok (.iinc 4 1, 3) := by decide +kernel
theorem dX9_creates_121 : decode cX9_creates 121 = .ok (.goto (-25), 3) := by decide +kernel
theorem dX9_creates_124 : decode cX9_creates 124 = .ok (.iload_n 3, 1) := by decide +kernel
theorem dX9_creates_125 : decode cX9_creates 125 = .ok (.ireturn, 1) := by decide +kernel
theorem dX9_instanceRefusal_0 : decode cX9_instanceRefusal 0 = .ok (.aload_n 0, 1) := by decide +kernel
theorem dX9_instanceRefusal_1 : decode cX9_instanceRefusal 1 = .ok (.iload_n 1, 1) := by decide +kernel
theorem dX9_instanceRefusal_2 : decode cX9_instanceRefusal 2 = .ok (.invokevirtual 86, 3) := by decide +kernel
theorem dX9_instanceRefusal_5 : decode cX9_instanceRefusal 5 = .ok (.ifCond .ne 7, 3) := by decide +kernel
theorem dX9_instanceRefusal_8 : decode cX9_instanceRefusal 8 = .ok (.iconst 1, 1) := by decide +kernel
theorem dX9_instanceRefusal_9 : decode cX9_instanceRefusal 9 = .ok (.goto 17, 3) := by decide +kernel
theorem dX9_instanceRefusal_12 : decode cX9_instanceRefusal 12 = .ok (.aload_n 0, 1) := by decide +kernel
theorem dX9_instanceRefusal_13 : decode cX9_instanceRefusal 13 = .ok (.invokevirtual 112, 3) := by decide +kernel
theorem dX9_instanceRefusal_16 : decode cX9_instanceRefusal 16 = .ok (.bipush 40, 2) := by decide +kernel
theorem dX9_instanceRefusal_18 : decode cX9_instanceRefusal 18 = .ok (.if_icmp .ne 7, 3) := by decide +kernel
theorem dX9_instanceRefusal_21 : decode cX9_instanceRefusal 21 = .ok (.iconst 2, 1) := by decide +kernel
theorem dX9_instanceRefusal_22 : decode cX9_instanceRefusal 22 = .ok (.goto 4, 3) := by decide +kernel
theorem dX9_instanceRefusal_25 : decode cX9_instanceRefusal 25 = .ok (.iconst 0, 1) := by decide +kernel
theorem dX9_instanceRefusal_26 : decode cX9_instanceRefusal 26 = .ok (.ireturn, 1) := by decide +kernel
theorem dX9_newInstance_0 : decode cX9_newInstance 0 = .ok (.aload_n 0, 1) := by decide +kernel
theorem dX9_newInstance_1 : decode cX9_newInstance 1 = .ok (.aload_n 0, 1) := by decide +kernel
theorem dX9_newInstance_2 : decode cX9_newInstance 2 = .ok (.iload_n 1, 1) := by decide +kernel
theorem dX9_newInstance_3 : decode cX9_newInstance 3 = .ok (.invokevirtual 116, 3) := by decide +kernel
theorem dX9_newInstance_6 : decode cX9_newInstance 6 = .ok (.invokevirtual 74, 3) := by decide +kernel
theorem dX9_newInstance_9 : decode cX9_newInstance 9 = .ok (.ifCond .eq 5, 3) := by decide +kernel
theorem dX9_newInstance_12 : decode cX9_newInstance 12 = .ok (.iconst 0, 1) := by decide +kernel
theorem dX9_newInstance_13 : decode cX9_newInstance 13 = .ok (.ireturn, 1) := by decide +kernel
theorem dX9_newInstance_14 : decode cX9_newInstance 14 = .ok (.aload_n 0, 1) := by decide +kernel
theorem dX9_newInstance_15 : decode cX9_newInstance 15 = .ok (.invokevirtual 89, 3) := by decide +kernel
theorem dX9_newInstance_18 : decode cX9_newInstance 18 = .ok (.aload_n 0, 1) := by decide +kernel
theorem dX9_newInstance_19 : decode cX9_newInstance 19 = .ok (.iload_n 1, 1) := by decide +kernel
theorem dX9_newInstance_20 : decode cX9_newInstance 20 = .ok (.aload_n 0, 1) := by decide +kernel
theorem dX9_newInstance_21 : decode cX9_newInstance 21 = .ok (.iload_n 1, 1) := by decide +kernel
theorem dX9_newInstance_22 : decode cX9_newInstance 22 = .ok (.invokevirtual 82, 3) := by decide +kernel
theorem dX9_newInstance_25 : decode cX9_newInstance 25 = .ok (.invokevirtual 119, 3) := by decide +kernel
theorem dX9_newInstance_28 : decode cX9_newInstance 28 = .ok (.ireturn, 1) := by decide +kernel
theorem dX9_arrayRefusal_0 : decode cX9_arrayRefusal 0 = .ok (.iload_n 1, 1) := by decide +kernel
theorem dX9_arrayRefusal_1 : decode cX9_arrayRefusal 1 = .ok (.iconst 0, 1) := by decide +kernel
theorem dX9_arrayRefusal_2 : decode cX9_arrayRefusal 2 = .ok (.bipush 8, 2) := by decide +kernel
theorem dX9_arrayRefusal_4 : decode cX9_arrayRefusal 4 = .ok (.invokestatic 78, 3) := by decide +kernel
theorem dX9_arrayRefusal_7 : decode cX9_arrayRefusal 7 = .ok (.ifCond .ne 7, 3) := by decide +kernel
theorem dX9_arrayRefusal_10 : decode cX9_arrayRefusal 10 = .ok (.iconst 1, 1) := by decide +kernel
theorem dX9_arrayRefusal_11 : decode cX9_arrayRefusal 11 = .ok (.goto 17, 3) := by decide +kernel
theorem dX9_arrayRefusal_14 : decode cX9_arrayRefusal 14 = .ok (.aload_n 0, 1) := by decide +kernel
theorem dX9_arrayRefusal_15 : decode cX9_arrayRefusal 15 = .ok (.invokevirtual 112, 3) := by decide +kernel
theorem dX9_arrayRefusal_18 : decode cX9_arrayRefusal 18 = .ok (.bipush 40, 2) := by decide +kernel
theorem dX9_arrayRefusal_20 : decode cX9_arrayRefusal 20 = .ok (.if_icmp .ne 7, 3) := by decide +kernel
theorem dX9_arrayRefusal_23 : decode cX9_arrayRefusal 23 = .ok (.iconst 2, 1) := by decide +kernel
theorem dX9_arrayRefusal_24 : decode cX9_arrayRefusal 24 = .ok (.goto 4, 3) := by decide +kernel
theorem dX9_arrayRefusal_27 : decode cX9_arrayRefusal 27 = .ok (.iconst 0, 1) := by decide +kernel
theorem dX9_arrayRefusal_28 : decode cX9_arrayRefusal 28 = .ok (.ireturn, 1) := by decide +kernel
theorem dX9_newArray_0 : decode cX9_newArray 0 = .ok (.aload_n 0, 1) := by decide +kernel
theorem dX9_newArray_1 : decode cX9_newArray 1 = .ok (.aload_n 0, 1) := by decide +kernel
theorem dX9_newArray_2 : decode cX9_newArray 2 = .ok (.iload_n 1, 1) := by decide +kernel
theorem dX9_newArray_3 : decode cX9_newArray 3 = .ok (.invokevirtual 122, 3) := by decide +kernel
theorem dX9_newArray_6 : decode cX9_newArray 6 = .ok (.invokevirtual 74, 3) := by decide +kernel
theorem dX9_newArray_9 : decode cX9_newArray 9 = .ok (.ifCond .eq 5, 3) := by decide +kernel
theorem dX9_newArray_12 : decode cX9_newArray 12 = .ok (.iconst 0, 1) := by decide +kernel
theorem dX9_newArray_13 : decode cX9_newArray 13 = .ok (.ireturn, 1) := by decide +kernel
theorem dX9_newArray_14 : decode cX9_newArray 14 = .ok (.aload_n 0, 1) := by decide +kernel
theorem dX9_newArray_15 : decode cX9_newArray 15 = .ok (.invokevirtual 89, 3) := by decide +kernel
theorem dX9_newArray_18 : decode cX9_newArray 18 = .ok (.aload_n 0, 1) := by decide +kernel
theorem dX9_newArray_19 : decode cX9_newArray 19 = .ok (.bipush 10, 2) := by decide +kernel
theorem dX9_newArray_21 : decode cX9_newArray 21 = .ok (.iload_n 1, 1) := by decide +kernel
theorem dX9_newArray_22 : decode cX9_newArray 22 = .ok (.invokevirtual 119, 3) := by decide +kernel
theorem dX9_newArray_25 : decode cX9_newArray 25 = .ok (.ireturn, 1) := by decide +kernel
theorem dX9_newHolder_0 : decode cX9_newHolder 0 = .ok (.aload_n 0, 1) := by decide +kernel
theorem dX9_newHolder_1 : decode cX9_newHolder 1 = .ok (.aload_n 0, 1) := by decide +kernel
theorem dX9_newHolder_2 : decode cX9_newHolder 2 = .ok (.invokevirtual 112, 3) := by decide +kernel
theorem dX9_newHolder_5 : decode cX9_newHolder 5 = .ok (.bipush 40, 2) := by decide +kernel
theorem dX9_newHolder_7 : decode cX9_newHolder 7 = .ok (.if_icmp .ne 7, 3) := by decide +kernel
theorem dX9_newHolder_10 : decode cX9_newHolder 10 = .ok (.iconst 1, 1) := by decide +kernel
theorem dX9_newHolder_11 : decode cX9_newHolder 11 = .ok (.goto 4, 3) := by decide +kernel
theorem dX9_newHolder_14 : decode cX9_newHolder 14 = .ok (.iconst 0, 1) := by decide +kernel
theorem dX9_newHolder_15 : decode cX9_newHolder 15 = .ok (.invokevirtual 74, 3) := by decide +kernel
theorem dX9_newHolder_18 : decode cX9_newHolder 18 = .ok (.ifCond .eq 5, 3) := by decide +kernel
theorem dX9_newHolder_21 : decode cX9_newHolder 21 = .ok (.iconst 0, 1) := by decide +kernel
theorem dX9_newHolder_22 : decode cX9_newHolder 22 = .ok (.ireturn, 1) := by decide +kernel
theorem dX9_newHolder_23 : decode cX9_newHolder 23 = .ok (.aload_n 0, 1) := by decide +kernel
theorem dX9_newHolder_24 : decode cX9_newHolder 24 = .ok (.invokevirtual 89, 3) := by decide +kernel
theorem dX9_newHolder_27 : decode cX9_newHolder 27 = .ok (.aload_n 0, 1) := by decide +kernel
theorem dX9_newHolder_28 : decode cX9_newHolder 28 = .ok (.bipush 11, 2) := by decide +kernel
theorem dX9_newHolder_30 : decode cX9_newHolder 30 = .ok (.iconst 1, 1) := by decide +kernel
theorem dX9_newHolder_31 : decode cX9_newHolder 31 = .ok (.invokevirtual 119, 3) := by decide +kernel
theorem dX9_newHolder_34 : decode cX9_newHolder 34 = .ok (.ireturn, 1) := by decide +kernel
theorem dX9_setRefusal_0 : decode cX9_setRefusal 0 = .ok (.aload_n 0, 1) := by decide +kernel
theorem dX9_setRefusal_1 : decode cX9_setRefusal 1 = .ok (.iload_n 1, 1) := by decide +kernel
theorem dX9_setRefusal_2 : decode cX9_setRefusal 2 = .ok (.iload_n 2, 1) := by decide +kernel
theorem dX9_setRefusal_3 : decode cX9_setRefusal 3 = .ok (.invokevirtual 125, 3) := by decide +kernel
theorem dX9_setRefusal_6 : decode cX9_setRefusal 6 = .ok (.ifCond .eq 20, 3) := by decide +kernel
theorem dX9_setRefusal_9 : decode cX9_setRefusal 9 = .ok (.iload_n 3, 1) := by decide +kernel
theorem dX9_setRefusal_10 : decode cX9_setRefusal 10 = .ok (.iconst (-1), 1) := by decide +kernel
theorem dX9_setRefusal_11 : decode cX9_setRefusal 11 = .ok (.if_icmp .eq 11, 3) := by decide +kernel
theorem dX9_setRefusal_14 : decode cX9_setRefusal 14 = .ok (.aload_n 0, 1) := by decide +kernel
theorem dX9_setRefusal_15 : decode cX9_setRefusal 15 = .ok (.iload_n 3, 1) := by decide +kernel
theorem dX9_setRefusal_16 : decode cX9_setRefusal 16 = .ok (.invokevirtual 106, 3) := by decide +kernel
theorem dX9_setRefusal_19 : decode cX9_setRefusal 19 = .ok (.ifCond .eq 7, 3) := by decide +kernel
theorem dX9_setRefusal_22 : decode cX9_setRefusal 22 = .ok (.iconst 0, 1) := by decide +kernel
theorem dX9_setRefusal_23 : decode cX9_setRefusal 23 = .ok (.goto 4, 3) := by decide +kernel
theorem dX9_setRefusal_26 : decode cX9_setRefusal 26 = .ok (.iconst 1, 1) := by decide +kernel
theorem dX9_setRefusal_27 : decode cX9_setRefusal 27 = .ok (.ireturn, 1) := by decide +kernel
theorem dX9_set_0 : decode cX9_set 0 = .ok (.aload_n 0, 1) := by decide +kernel
theorem dX9_set_1 : decode cX9_set 1 = .ok (.aload_n 0, 1) := by decide +kernel
theorem dX9_set_2 : decode cX9_set 2 = .ok (.iload_n 1, 1) := by decide +kernel
theorem dX9_set_3 : decode cX9_set 3 = .ok (.iload_n 2, 1) := by decide +kernel
theorem dX9_set_4 : decode cX9_set 4 = .ok (.iload_n 3, 1) := by decide +kernel
theorem dX9_set_5 : decode cX9_set 5 = .ok (.invokevirtual 128, 3) := by decide +kernel
theorem dX9_set_8 : decode cX9_set 8 = .ok (.invokevirtual 74, 3) := by decide +kernel
theorem dX9_set_11 : decode cX9_set 11 = .ok (.ifCond .eq 5, 3) := by decide +kernel
theorem dX9_set_14 : decode cX9_set 14 = .ok (.iconst 0, 1) := by decide +kernel
theorem dX9_set_15 : decode cX9_set 15 = .ok (.ireturn, 1) := by decide +kernel
theorem dX9_set_16 : decode cX9_set 16 = .ok (.aload_n 0, 1) := by decide +kernel
theorem dX9_set_17 : decode cX9_set 17 = .ok (.invokevirtual 89, 3) := by decide +kernel
theorem dX9_set_20 : decode cX9_set 20 = .ok (.aload_n 0, 1) := by decide +kernel
theorem dX9_set_21 : decode cX9_set 21 = .ok (.getfield 7, 3) := by decide +kernel
theorem dX9_set_24 : decode cX9_set 24 = .ok (.iload_n 1, 1) := by decide +kernel
theorem dX9_set_25 : decode cX9_set 25 = .ok (.invokestatic 103, 3) := by decide +kernel
theorem dX9_set_28 : decode cX9_set 28 = .ok (.iconst 5, 1) := by decide +kernel
theorem dX9_set_29 : decode cX9_set 29 = .ok (.iadd, 1) := by decide +kernel
theorem dX9_set_30 : decode cX9_set 30 = .ok (.iload_n 2, 1) := by decide +kernel
theorem dX9_set_31 : decode cX9_set 31 = .ok (.iadd, 1) := by decide +kernel
theorem dX9_set_32 : decode cX9_set 32 = .ok (.iaload, 1) := by decide +kernel
theorem dX9_set_33 : decode cX9_set 33 = .ok (.istore 4, 2) := by decide +kernel
theorem dX9_set_35 : decode cX9_set 35 = .ok (.aload_n 0, 1) := by decide +kernel
theorem dX9_set_36 : decode cX9_set 36 = .ok (.getfield 7, 3) := by decide +kernel
theorem dX9_set_39 : decode cX9_set 39 = .ok (.iload_n 1, 1) := by decide +kernel
theorem dX9_set_40 : decode cX9_set 40 = .ok (.invokestatic 103, 3) := by decide +kernel
theorem dX9_set_43 : decode cX9_set 43 = .ok (.iconst 5, 1) := by decide +kernel
theorem dX9_set_44 : decode cX9_set 44 = .ok (.iadd, 1) := by decide +kernel
theorem dX9_set_45 : decode cX9_set 45 = .ok (.iload_n 2, 1) := by decide +kernel
theorem dX9_set_46 : decode cX9_set 46 = .ok (.iadd, 1) := by decide +kernel
theorem dX9_set_47 : decode cX9_set 47 = .ok (.iload_n 3, 1) := by decide +kernel
theorem dX9_set_48 : decode cX9_set 48 = .ok (.iastore, 1) := by decide +kernel
theorem dX9_set_49 : decode cX9_set 49 = .ok (.iload 4, 2) := by decide +kernel
theorem dX9_set_51 : decode cX9_set 51 = .ok (.ireturn, 1) := by decide +kernel
theorem dX9_get_0 : decode cX9_get 0 = .ok (.aload_n 0, 1) := by decide +kernel
theorem dX9_get_1 : decode cX9_get 1 = .ok (.aload_n 0, 1) := by decide +kernel
theorem dX9_get_2 : decode cX9_get 2 = .ok (.iload_n 1, 1) := by decide +kernel
theorem dX9_get_3 : decode cX9_get 3 = .ok (.iload_n 2, 1) := by decide +kernel
theorem dX9_get_4 : decode cX9_get 4 = .ok (.invokevirtual 125, 3) := by decide +kernel
theorem dX9_get_7 : decode cX9_get 7 = .ok (.ifCond .eq 7, 3) := by decide +kernel
theorem dX9_get_10 : decode cX9_get 10 = .ok (.iconst 0, 1) := by decide +kernel
theorem dX9_get_11 : decode cX9_get 11 = .ok (.goto 4, 3) := by decide +kernel
theorem dX9_get_14 : decode cX9_get 14 = .ok (.iconst 1, 1) := by decide +kernel
theorem dX9_get_15 : decode cX9_get 15 = .ok (.invokevirtual 74, 3) := by decide +kernel
theorem dX9_get_18 : decode cX9_get 18 = .ok (.ifCond .eq 7, 3) := by decide +kernel
theorem dX9_get_21 : decode cX9_get 21 = .ok (.iconst 0, 1) := by decide +kernel
theorem dX9_get_22 : decode cX9_get 22 = .ok (.goto 16, 3) := by decide +kernel
theorem dX9_get_25 : decode cX9_get 25 = .ok (.aload_n 0, 1) := by decide +kernel
theorem dX9_get_26 : decode cX9_get 26 = .ok (.getfield 7, 3) := by decide +kernel
theorem dX9_get_29 : decode cX9_get 29 = .ok (.iload_n 1, 1) := by decide +kernel
theorem dX9_get_30 : decode cX9_get 30 = .ok (.invokestatic 103, 3) := by decide +kernel
theorem dX9_get_33 : decode cX9_get 33 = .ok (.iconst 5, 1) := by decide +kernel
theorem dX9_get_34 : decode cX9_get 34 = .ok (.iadd, 1) := by decide +kernel
theorem dX9_get_35 : decode cX9_get 35 = .ok (.iload_n 2, 1) := by decide +kernel
theorem dX9_get_36 : decode cX9_get 36 = .ok (.iadd, 1) := by decide +kernel
theorem dX9_get_37 : decode cX9_get 37 = .ok (.iaload, 1) := by decide +kernel
theorem dX9_get_38 : decode cX9_get 38 = .ok (.ireturn, 1) := by decide +kernel
theorem dX9_resizeArray_0 : decode cX9_resizeArray 0 = .ok (.aload_n 0, 1) := by decide +kernel
theorem dX9_resizeArray_1 : decode cX9_resizeArray 1 = .ok (.aload_n 0, 1) := by decide +kernel
theorem dX9_resizeArray_2 : decode cX9_resizeArray 2 = .ok (.iload_n 1, 1) := by decide +kernel
theorem dX9_resizeArray_3 : decode cX9_resizeArray 3 = .ok (.invokevirtual 106, 3) := by decide +kernel
theorem dX9_resizeArray_6 : decode cX9_resizeArray 6 = .ok (.ifCond .ne 7, 3) := by decide +kernel
theorem dX9_resizeArray_9 : decode cX9_resizeArray 9 = .ok (.iconst 1, 1) := by decide +kernel
theorem dX9_resizeArray_10 : decode cX9_resizeArray 10 = .ok (.goto 38, 3) := by decide +kernel
theorem dX9_resizeArray_13 : decode cX9_resizeArray 13 = .ok (.iload_n 2, 1) := by decide +kernel
theorem dX9_resizeArray_14 : decode cX9_resizeArray 14 = .ok (.iconst 0, 1) := by decide +kernel
theorem dX9_resizeArray_15 : decode cX9_resizeArray 15 = .ok (.bipush 8, 2) := by decide +kernel
theorem dX9_resizeArray_17 : decode cX9_resizeArray 17 = .ok (.invokestatic 78, 3) := by decide +kernel
theorem dX9_resizeArray_20 : decode cX9_resizeArray 20 = .ok (.ifCond .ne 7, 3) := by decide +kernel
theorem dX9_resizeArray_23 : decode cX9_resizeArray 23 = .ok (.iconst 2, 1) := by decide +kernel
theorem dX9_resizeArray_24 : decode cX9_resizeArray 24 = .ok (.goto 24, 3) := by decide +kernel
theorem dX9_resizeArray_27 : decode cX9_resizeArray 27 = .ok (.aload_n 0, 1) := by decide +kernel
theorem dX9_resizeArray_28 : decode cX9_resizeArray 28 = .ok (.getfield 7, 3) := by decide +kernel
theorem dX9_resizeArray_31 : decode cX9_resizeArray 31 = .ok (.iload_n 1, 1) := by decide +kernel
theorem dX9_resizeArray_32 : decode cX9_resizeArray 32 = .ok (.invokestatic 103, 3) := by decide +kernel
theorem dX9_resizeArray_35 : decode cX9_resizeArray 35 = .ok (.iconst 1, 1) := by decide +kernel
theorem dX9_resizeArray_36 : decode cX9_resizeArray 36 = .ok (.iadd, 1) := by decide +kernel
theorem dX9_resizeArray_37 : decode cX9_resizeArray 37 = .ok (.iaload, 1) := by decide +kernel
theorem dX9_resizeArray_38 : decode cX9_resizeArray 38 = .ok (.bipush 10, 2) := by decide +kernel
theorem dX9_resizeArray_40 : decode cX9_resizeArray 40 = .ok (.if_icmp .eq 7, 3) := by decide +kernel
theorem dX9_resizeArray_43 : decode cX9_resizeArray 43 = .ok (.iconst 3, 1) := by decide +kernel
theorem dX9_resizeArray_44 : decode cX9_resizeArray 44 = .ok (.goto 4, 3) := by decide +kernel
theorem dX9_resizeArray_47 : decode cX9_resizeArray 47 = .ok (.iconst 0, 1) := by decide +kernel
theorem dX9_resizeArray_48 : decode cX9_resizeArray 48 = .ok (.invokevirtual 74, 3) := by decide +kernel
theorem dX9_resizeArray_51 : decode cX9_resizeArray 51 = .ok (.ifCond .eq 5, 3) := by decide +kernel
theorem dX9_resizeArray_54 : decode cX9_resizeArray 54 = .ok (.iconst 0, 1) := by decide +kernel
theorem dX9_resizeArray_55 : decode cX9_resizeArray 55 = .ok (.ireturn, 1) := by decide +kernel
theorem dX9_resizeArray_56 : decode cX9_resizeArray 56 = .ok (.aload_n 0, 1) := by decide +kernel
theorem dX9_resizeArray_57 : decode cX9_resizeArray 57 = .ok (.invokevirtual 89, 3) := by decide +kernel
theorem dX9_resizeArray_60 : decode cX9_resizeArray 60 = .ok (.aload_n 0, 1) := by decide +kernel
theorem dX9_resizeArray_61 : decode cX9_resizeArray 61 = .ok (.getfield 7, 3) := by decide +kernel
theorem dX9_resizeArray_64 : decode cX9_resizeArray 64 = .ok (.iload_n 1, 1) := by decide +kernel
theorem dX9_resizeArray_65 : decode cX9_resizeArray 65 = .ok (.invokestatic 103, 3) := by decide +kernel
theorem dX9_resizeArray_68 : decode cX9_resizeArray 68 = .ok (.iconst 2, 1) := by decide +kernel
theorem dX9_resizeArray_69 : decode cX9_resizeArray 69 = .ok (.iadd, 1) := by decide +kernel
theorem dX9_resizeArray_70 : decode cX9_resizeArray 70 = .ok (.iaload, 1) := by decide +kernel
theorem dX9_resizeArray_71 : decode cX9_resizeArray 71 = .ok (.istore_n 3, 1) := by decide +kernel
theorem dX9_resizeArray_72 : decode cX9_resizeArray 72 = .ok (.aload_n 0, 1) := by decide +kernel
theorem dX9_resizeArray_73 : decode cX9_resizeArray 73 = .ok (.getfield 7, 3) := by decide +kernel
theorem dX9_resizeArray_76 : decode cX9_resizeArray 76 = .ok (.iload_n 1, 1) := by decide +kernel
theorem dX9_resizeArray_77 : decode cX9_resizeArray 77 = .ok (.invokestatic 103, 3) := by decide +kernel
theorem dX9_resizeArray_80 : decode cX9_resizeArray 80 = .ok (.iconst 2, 1) := by decide +kernel
theorem dX9_resizeArray_81 : decode cX9_resizeArray 81 = .ok (.iadd, 1) := by decide +kernel
theorem dX9_resizeArray_82 : decode cX9_resizeArray 82 = .ok (.iload_n 2, 1) := by decide +kernel
theorem dX9_resizeArray_83 : decode cX9_resizeArray 83 = .ok (.iastore, 1) := by decide +kernel
theorem dX9_resizeArray_84 : decode cX9_resizeArray 84 = .ok (.iload_n 2, 1) := by decide +kernel
theorem dX9_resizeArray_85 : decode cX9_resizeArray 85 = .ok (.istore 4, 2) := by decide +kernel
theorem dX9_resizeArray_87 : decode cX9_resizeArray 87 = .ok (.iload 4, 2) := by decide +kernel
theorem dX9_resizeArray_89 : decode cX9_resizeArray 89 = .ok (.bipush 8, 2) := by decide +kernel
theorem dX9_resizeArray_91 : decode cX9_resizeArray 91 = .ok (.if_icmp .ge 24, 3) := by decide +kernel
theorem dX9_resizeArray_94 : decode cX9_resizeArray 94 = .ok (.aload_n 0, 1) := by decide +kernel
theorem dX9_resizeArray_95 : decode cX9_resizeArray 95 = .ok (.getfield 7, 3) := by decide +kernel
theorem dX9_resizeArray_98 : decode cX9_resizeArray 98 = .ok (.iload_n 1, 1) := by decide +kernel
theorem dX9_resizeArray_99 : decode cX9_resizeArray 99 = .ok (.invokestatic 103, 3) := by decide +kernel
theorem dX9_resizeArray_102 : decode cX9_resizeArray 102 = .ok (.iconst 5, 1) := by decide +kernel
theorem dX9_resizeArray_103 : decode cX9_resizeArray 103 = .ok (.iadd, 1) := by decide +kernel
theorem dX9_resizeArray_104 : decode cX9_resizeArray 104 = .ok (.iload 4, 2) := by decide +kernel
theorem dX9_resizeArray_106 : decode cX9_resizeArray 106 = .ok (.iadd, 1) := by decide +kernel
theorem dX9_resizeArray_107 : decode cX9_resizeArray 107 = .ok (.iconst (-1), 1) := by decide +kernel
theorem dX9_resizeArray_108 : decode cX9_resizeArray 108 = .ok (.iastore, 1) := by decide +kernel
theorem dX9_resizeArray_109 : decode cX9_resizeArray 109 = .ok (.iinc 4 1, 3) := by decide +kernel
theorem dX9_resizeArray_112 : decode cX9_resizeArray 112 = .ok (.goto (-25), 3) := by decide +kernel
theorem dX9_resizeArray_115 : decode cX9_resizeArray 115 = .ok (.iload_n 3, 1) := by decide +kernel
theorem dX9_resizeArray_116 : decode cX9_resizeArray 116 = .ok (.ireturn, 1) := by decide +kernel
theorem dX9_referent_0 : decode cX9_referent 0 = .ok (.aload_n 0, 1) := by decide +kernel
theorem dX9_referent_1 : decode cX9_referent 1 = .ok (.aload_n 0, 1) := by decide +kernel
theorem dX9_referent_2 : decode cX9_referent 2 = .ok (.iload_n 1, 1) := by decide +kernel
theorem dX9_referent_3 : decode cX9_referent 3 = .ok (.invokevirtual 106, 3) := by decide +kernel
theorem dX9_referent_6 : decode cX9_referent 6 = .ok (.ifCond .ne 7, 3) := by decide +kernel
theorem dX9_referent_9 : decode cX9_referent 9 = .ok (.iconst 1, 1) := by decide +kernel
theorem dX9_referent_10 : decode cX9_referent 10 = .ok (.goto 24, 3) := by decide +kernel
theorem dX9_referent_13 : decode cX9_referent 13 = .ok (.aload_n 0, 1) := by decide +kernel
theorem dX9_referent_14 : decode cX9_referent 14 = .ok (.getfield 7, 3) := by decide +kernel
theorem dX9_referent_17 : decode cX9_referent 17 = .ok (.iload_n 1, 1) := by decide +kernel
theorem dX9_referent_18 : decode cX9_referent 18 = .ok (.invokestatic 103, 3) := by decide +kernel
theorem dX9_referent_21 : decode cX9_referent 21 = .ok (.iconst 1, 1) := by decide +kernel
theorem dX9_referent_22 : decode cX9_referent 22 = .ok (.iadd, 1) := by decide +kernel
theorem dX9_referent_23 : decode cX9_referent 23 = .ok (.iaload, 1) := by decide +kernel
theorem dX9_referent_24 : decode cX9_referent 24 = .ok (.bipush 11, 2) := by decide +kernel
theorem dX9_referent_26 : decode cX9_referent 26 = .ok (.if_icmp .eq 7, 3) := by decide +kernel
theorem dX9_referent_29 : decode cX9_referent 29 = .ok (.iconst 2, 1) := by decide +kernel
theorem dX9_referent_30 : decode cX9_referent 30 = .ok (.goto 4, 3) := by decide +kernel
theorem dX9_referent_33 : decode cX9_referent 33 = .ok (.iconst 0, 1) := by decide +kernel
theorem dX9_referent_34 : decode cX9_referent 34 = .ok (.invokevirtual 74, 3) := by decide +kernel
theorem dX9_referent_37 : decode cX9_referent 37 = .ok (.ifCond .eq 7, 3) := by decide +kernel
theorem dX9_referent_40 : decode cX9_referent 40 = .ok (.iconst 0, 1) := by decide +kernel
theorem dX9_referent_41 : decode cX9_referent 41 = .ok (.goto 14, 3) := by decide +kernel
theorem dX9_referent_44 : decode cX9_referent 44 = .ok (.aload_n 0, 1) := by decide +kernel
theorem dX9_referent_45 : decode cX9_referent 45 = .ok (.getfield 7, 3) := by decide +kernel
theorem dX9_referent_48 : decode cX9_referent 48 = .ok (.iload_n 1, 1) := by decide +kernel
theorem dX9_referent_49 : decode cX9_referent 49 = .ok (.invokestatic 103, 3) := by decide +kernel
theorem dX9_referent_52 : decode cX9_referent 52 = .ok (.iconst 5, 1) := by decide +kernel
theorem dX9_referent_53 : decode cX9_referent 53 = .ok (.iadd, 1) := by decide +kernel
theorem dX9_referent_54 : decode cX9_referent 54 = .ok (.iaload, 1) := by decide +kernel
theorem dX9_referent_55 : decode cX9_referent 55 = .ok (.ireturn, 1) := by decide +kernel
theorem dX9_rootRefusal_0 : decode cX9_rootRefusal 0 = .ok (.aload_n 0, 1) := by decide +kernel
theorem dX9_rootRefusal_1 : decode cX9_rootRefusal 1 = .ok (.iload_n 1, 1) := by decide +kernel
theorem dX9_rootRefusal_2 : decode cX9_rootRefusal 2 = .ok (.invokevirtual 106, 3) := by decide +kernel
theorem dX9_rootRefusal_5 : decode cX9_rootRefusal 5 = .ok (.ifCond .ne 7, 3) := by decide +kernel
theorem dX9_rootRefusal_8 : decode cX9_rootRefusal 8 = .ok (.iconst 1, 1) := by decide +kernel
theorem dX9_rootRefusal_9 : decode cX9_rootRefusal 9 = .ok (.goto 17, 3) := by decide +kernel
theorem dX9_rootRefusal_12 : decode cX9_rootRefusal 12 = .ok (.iload_n 2, 1) := by decide +kernel
theorem dX9_rootRefusal_13 : decode cX9_rootRefusal 13 = .ok (.iconst 0, 1) := by decide +kernel
theorem dX9_rootRefusal_14 : decode cX9_rootRefusal 14 = .ok (.iconst 2, 1) := by decide +kernel
theorem dX9_rootRefusal_15 : decode cX9_rootRefusal 15 = .ok (.invokestatic 78, 3) := by decide +kernel
theorem dX9_rootRefusal_18 : decode cX9_rootRefusal 18 = .ok (.ifCond .ne 7, 3) := by decide +kernel
theorem dX9_rootRefusal_21 : decode cX9_rootRefusal 21 = .ok (.iconst 2, 1) := by decide +kernel
theorem dX9_rootRefusal_22 : decode cX9_rootRefusal 22 = .ok (.goto 4, 3) := by decide +kernel
theorem dX9_rootRefusal_25 : decode cX9_rootRefusal 25 = .ok (.iconst 0, 1) := by decide +kernel
theorem dX9_rootRefusal_26 : decode cX9_rootRefusal 26 = .ok (.ireturn, 1) := by decide +kernel
theorem dX9_addRoot_0 : decode cX9_addRoot 0 = .ok (.aload_n 0, 1) := by decide +kernel
theorem dX9_addRoot_1 : decode cX9_addRoot 1 = .ok (.aload_n 0, 1) := by decide +kernel
theorem dX9_addRoot_2 : decode cX9_addRoot 2 = .ok (.iload_n 1, 1) := by decide +kernel
theorem dX9_addRoot_3 : decode cX9_addRoot 3 = .ok (.iload_n 2, 1) := by decide +kernel
theorem dX9_addRoot_4 : decode cX9_addRoot 4 = .ok (.invokevirtual 132, 3) := by decide +kernel
theorem dX9_addRoot_7 : decode cX9_addRoot 7 = .ok (.invokevirtual 74, 3) := by decide +kernel
theorem dX9_addRoot_10 : decode cX9_addRoot 10 = .ok (.ifCond .eq 5, 3) := by decide +kernel
theorem dX9_addRoot_13 : decode cX9_addRoot 13 = .ok (.iconst 0, 1) := by decide +kernel
theorem dX9_addRoot_14 : decode cX9_addRoot 14 = .ok (.ireturn, 1) := by decide +kernel
theorem dX9_addRoot_15 : decode cX9_addRoot 15 = .ok (.aload_n 0, 1) := by decide +kernel
theorem dX9_addRoot_16 : decode cX9_addRoot 16 = .ok (.invokevirtual 89, 3) := by decide +kernel
theorem dX9_addRoot_19 : decode cX9_addRoot 19 = .ok (.aload_n 0, 1) := by decide +kernel
theorem dX9_addRoot_20 : decode cX9_addRoot 20 = .ok (.getfield 7, 3) := by decide +kernel
theorem dX9_addRoot_23 : decode cX9_addRoot 23 = .ok (.iload_n 1, 1) := by decide +kernel
theorem dX9_addRoot_24 : decode cX9_addRoot 24 = .ok (.invokestatic 103, 3) := by decide +kernel
theorem dX9_addRoot_27 : decode cX9_addRoot 27 = .ok (.iconst 4, 1) := by decide +kernel
theorem dX9_addRoot_28 : decode cX9_addRoot 28 = .ok (.iadd, 1) := by decide +kernel
theorem dX9_addRoot_29 : decode cX9_addRoot 29 = .ok (.dup2, 1) := by decide +kernel
theorem dX9_addRoot_30 : decode cX9_addRoot 30 = .ok (.iaload, 1) := by decide +kernel
theorem dX9_addRoot_31 : decode cX9_addRoot 31 = .ok (.iconst 1, 1) := by decide +kernel
theorem dX9_addRoot_32 : decode cX9_addRoot 32 = .ok (.iload_n 2, 1) := by decide +kernel
theorem dX9_addRoot_33 : decode cX9_addRoot 33 = .ok (.ishl, 1) := by decide +kernel
theorem dX9_addRoot_34 : decode cX9_addRoot 34 = .ok (.ior, 1) := by decide +kernel
theorem dX9_addRoot_35 : decode cX9_addRoot 35 = .ok (.iastore, 1) := by decide +kernel
theorem dX9_addRoot_36 : decode cX9_addRoot 36 = .ok (.aload_n 0, 1) := by decide +kernel
theorem dX9_addRoot_37 : decode cX9_addRoot 37 = .ok (.getfield 7, 3) := by decide +kernel
theorem dX9_addRoot_40 : decode cX9_addRoot 40 = .ok (.iload_n 1, 1) := by decide +kernel
theorem dX9_addRoot_41 : decode cX9_addRoot 41 = .ok (.invokestatic 103, 3) := by decide +kernel
theorem dX9_addRoot_44 : decode cX9_addRoot 44 = .ok (.iconst 4, 1) := by decide +kernel
theorem dX9_addRoot_45 : decode cX9_addRoot 45 = .ok (.iadd, 1) := by decide +kernel
theorem dX9_addRoot_46 : decode cX9_addRoot 46 = .ok (.iaload, 1) := by decide +kernel
theorem dX9_addRoot_47 : decode cX9_addRoot 47 = .ok (.ireturn, 1) := by decide +kernel
theorem dX9_unrootRefusal_0 : decode cX9_unrootRefusal 0 = .ok (.aload_n 0, 1) := by decide +kernel
theorem dX9_unrootRefusal_1 : decode cX9_unrootRefusal 1 = .ok (.iload_n 1, 1) := by decide +kernel
theorem dX9_unrootRefusal_2 : decode cX9_unrootRefusal 2 = .ok (.iload_n 2, 1) := by decide +kernel
theorem dX9_unrootRefusal_3 : decode cX9_unrootRefusal 3 = .ok (.invokevirtual 132, 3) := by decide +kernel
theorem dX9_unrootRefusal_6 : decode cX9_unrootRefusal 6 = .ok (.istore_n 3, 1) := by decide +kernel
theorem dX9_unrootRefusal_7 : decode cX9_unrootRefusal 7 = .ok (.iload_n 3, 1) := by decide +kernel
theorem dX9_unrootRefusal_8 : decode cX9_unrootRefusal 8 = .ok (.ifCond .eq 7, 3) := by decide +kernel
theorem dX9_unrootRefusal_11 : decode cX9_unrootRefusal 11 = .ok (.iload_n 3, 1) := by decide +kernel
theorem dX9_unrootRefusal_12 : decode cX9_unrootRefusal 12 = .ok (.goto 26, 3) := by decide +kernel
theorem dX9_unrootRefusal_15 : decode cX9_unrootRefusal 15 = .ok (.aload_n 0, 1) := by decide +kernel
theorem dX9_unrootRefusal_16 : decode cX9_unrootRefusal 16 = .ok (.getfield 7, 3) := by decide +kernel
theorem dX9_unrootRefusal_19 : decode cX9_unrootRefusal 19 = .ok (.iload_n 1, 1) := by decide +kernel
theorem dX9_unrootRefusal_20 : decode cX9_unrootRefusal 20 = .ok (.invokestatic 103, 3) := by decide +kernel
theorem dX9_unrootRefusal_23 : decode cX9_unrootRefusal 23 = .ok (.iconst 4, 1) := by decide +kernel
theorem dX9_unrootRefusal_24 : decode cX9_unrootRefusal 24 = .ok (.iadd, 1) := by decide +kernel
theorem dX9_unrootRefusal_25 : decode cX9_unrootRefusal 25 = .ok (.iaload, 1) := by decide +kernel
theorem dX9_unrootRefusal_26 : decode cX9_unrootRefusal 26 = .ok (.iload_n 2, 1) := by decide +kernel
theorem dX9_unrootRefusal_27 : decode cX9_unrootRefusal 27 = .ok (.ishr, 1) := by decide +kernel
theorem dX9_unrootRefusal_28 : decode cX9_unrootRefusal 28 = .ok (.iconst 1, 1) := by decide +kernel
theorem dX9_unrootRefusal_29 : decode cX9_unrootRefusal 29 = .ok (.iand, 1) := by decide +kernel
theorem dX9_unrootRefusal_30 : decode cX9_unrootRefusal 30 = .ok (.ifCond .ne 7, 3) := by decide +kernel
theorem dX9_unrootRefusal_33 : decode cX9_unrootRefusal 33 = .ok (.iconst 3, 1) := by decide +kernel
theorem dX9_unrootRefusal_34 : decode cX9_unrootRefusal 34 = .ok (.goto 4, 3) := by decide +kernel
theorem dX9_unrootRefusal_37 : decode cX9_unrootRefusal 37 = .ok (.iconst 0, 1) := by decide +kernel
theorem dX9_unrootRefusal_38 : decode cX9_unrootRefusal 38 = .ok (.ireturn, 1) := by decide +kernel
theorem dX9_removeRoot_0 : decode cX9_removeRoot 0 = .ok (.aload_n 0, 1) := by decide +kernel
theorem dX9_removeRoot_1 : decode cX9_removeRoot 1 = .ok (.aload_n 0, 1) := by decide +kernel
theorem dX9_removeRoot_2 : decode cX9_removeRoot 2 = .ok (.iload_n 1, 1) := by decide +kernel
theorem dX9_removeRoot_3 : decode cX9_removeRoot 3 = .ok (.iload_n 2, 1) := by decide +kernel
theorem dX9_removeRoot_4 : decode cX9_removeRoot 4 = .ok (.invokevirtual 135, 3) := by decide +kernel
theorem dX9_removeRoot_7 : decode cX9_removeRoot 7 = .ok (.invokevirtual 74, 3) := by decide +kernel
theorem dX9_removeRoot_10 : decode cX9_removeRoot 10 = .ok (.ifCond .eq 5, 3) := by decide +kernel
theorem dX9_removeRoot_13 : decode cX9_removeRoot 13 = .ok (.iconst 0, 1) := by decide +kernel
theorem dX9_removeRoot_14 : decode cX9_removeRoot 14 = .ok (.ireturn, 1) := by decide +kernel
theorem dX9_removeRoot_15 : decode cX9_removeRoot 15 = .ok (.aload_n 0, 1) := by decide +kernel
theorem dX9_removeRoot_16 : decode cX9_removeRoot 16 = .ok (.invokevirtual 89, 3) := by decide +kernel
theorem dX9_removeRoot_19 : decode cX9_removeRoot 19 = .ok (.aload_n 0, 1) := by decide +kernel
theorem dX9_removeRoot_20 : decode cX9_removeRoot 20 = .ok (.getfield 7, 3) := by decide +kernel
theorem dX9_removeRoot_23 : decode cX9_removeRoot 23 = .ok (.iload_n 1, 1) := by decide +kernel
theorem dX9_removeRoot_24 : decode cX9_removeRoot 24 = .ok (.invokestatic 103, 3) := by decide +kernel
theorem dX9_removeRoot_27 : decode cX9_removeRoot 27 = .ok (.iconst 4, 1) := by decide +kernel
theorem dX9_removeRoot_28 : decode cX9_removeRoot 28 = .ok (.iadd, 1) := by decide +kernel
theorem dX9_removeRoot_29 : decode cX9_removeRoot 29 = .ok (.dup2, 1) := by decide +kernel
theorem dX9_removeRoot_30 : decode cX9_removeRoot 30 = .ok (.iaload, 1) := by decide +kernel
theorem dX9_removeRoot_31 : decode cX9_removeRoot 31 = .ok (.iconst 1, 1) := by decide +kernel
theorem dX9_removeRoot_32 : decode cX9_removeRoot 32 = .ok (.iload_n 2, 1) := by decide +kernel
theorem dX9_removeRoot_33 : decode cX9_removeRoot 33 = .ok (.ishl, 1) := by decide +kernel
theorem dX9_removeRoot_34 : decode cX9_removeRoot 34 = .ok (.iconst (-1), 1) := by decide +kernel
theorem dX9_removeRoot_35 : decode cX9_removeRoot 35 = .ok (.ixor, 1) := by decide +kernel
theorem dX9_removeRoot_36 : decode cX9_removeRoot 36 = .ok (.iand, 1) := by decide +kernel
theorem dX9_removeRoot_37 : decode cX9_removeRoot 37 = .ok (.iastore, 1) := by decide +kernel
theorem dX9_removeRoot_38 : decode cX9_removeRoot 38 = .ok (.aload_n 0, 1) := by decide +kernel
theorem dX9_removeRoot_39 : decode cX9_removeRoot 39 = .ok (.getfield 7, 3) := by decide +kernel
theorem dX9_removeRoot_42 : decode cX9_removeRoot 42 = .ok (.iload_n 1, 1) := by decide +kernel
theorem dX9_removeRoot_43 : decode cX9_removeRoot 43 = .ok (.invokestatic 103, 3) := by decide +kernel
theorem dX9_removeRoot_46 : decode cX9_removeRoot 46 = .ok (.iconst 4, 1) := by decide +kernel
theorem dX9_removeRoot_47 : decode cX9_removeRoot 47 = .ok (.iadd, 1) := by decide +kernel
theorem dX9_removeRoot_48 : decode cX9_removeRoot 48 = .ok (.iaload, 1) := by decide +kernel
theorem dX9_removeRoot_49 : decode cX9_removeRoot 49 = .ok (.ireturn, 1) := by decide +kernel
theorem dX9_refersTo_0 : decode cX9_refersTo 0 = .ok (.lconst 0, 1) := by decide +kernel
theorem dX9_refersTo_1 : decode cX9_refersTo 1 = .ok (.lstore 4, 2) := by decide +kernel
theorem dX9_refersTo_3 : decode cX9_refersTo 3 = .ok (.aload_n 0, 1) := by decide +kernel
theorem dX9_refersTo_4 : decode cX9_refersTo 4 = .ok (.getfield 7, 3) := by decide +kernel
theorem dX9_refersTo_7 : decode cX9_refersTo 7 = .ok (.iload_n 1, 1) := by decide +kernel
theorem dX9_refersTo_8 : decode cX9_refersTo 8 = .ok (.invokestatic 103, 3) := by decide +kernel
theorem dX9_refersTo_11 : decode cX9_refersTo 11 = .ok (.iconst 1, 1) := by decide +kernel
theorem dX9_refersTo_12 : decode cX9_refersTo 12 = .ok (.iadd, 1) := by decide +kernel
theorem dX9_refersTo_13 : decode cX9_refersTo 13 = .ok (.iaload, 1) := by decide +kernel
theorem dX9_refersTo_14 : decode cX9_refersTo 14 = .ok (.bipush 11, 2) := by decide +kernel
theorem dX9_refersTo_16 : decode cX9_refersTo 16 = .ok (.if_icmp .eq 74, 3) := by decide +kernel
theorem dX9_refersTo_19 : decode cX9_refersTo 19 = .ok (.iconst 0, 1) := by decide +kernel
theorem dX9_refersTo_20 : decode cX9_refersTo 20 = .ok (.istore 6, 2) := by decide +kernel
theorem dX9_refersTo_22 : decode cX9_refersTo 22 = .ok (.iload 6, 2) := by decide +kernel
theorem dX9_refersTo_24 : decode cX9_refersTo 24 = .ok (.aload_n 0, 1) := by decide +kernel
theorem dX9_refersTo_25 : decode cX9_refersTo 25 = .ok (.getfield 7, 3) := by decide +kernel
theorem dX9_refersTo_28 : decode cX9_refersTo 28 = .ok (.iload_n 1, 1) := by decide +kernel
theorem dX9_refersTo_29 : decode cX9_refersTo 29 = .ok (.invokestatic 103, 3) := by decide +kernel
theorem dX9_refersTo_32 : decode cX9_refersTo 32 = .ok (.iconst 2, 1) := by decide +kernel
theorem dX9_refersTo_33 : decode cX9_refersTo 33 = .ok (.iadd, 1) := by decide +kernel
theorem dX9_refersTo_34 : decode cX9_refersTo 34 = .ok (.iaload, 1) := by decide +kernel
theorem dX9_refersTo_35 : decode cX9_refersTo 35 = .ok (.if_icmp .ge 55, 3) := by decide +kernel
theorem dX9_refersTo_38 : decode cX9_refersTo 38 = .ok (.aload_n 0, 1) := by decide +kernel
theorem dX9_refersTo_39 : decode cX9_refersTo 39 = .ok (.getfield 7, 3) := by decide +kernel
theorem dX9_refersTo_42 : decode cX9_refersTo 42 = .ok (.iload_n 1, 1) := by decide +kernel
theorem dX9_refersTo_43 : decode cX9_refersTo 43 = .ok (.invokestatic 103, 3) := by decide +kernel
theorem dX9_refersTo_46 : decode cX9_refersTo 46 = .ok (.iconst 5, 1) := by decide +kernel
theorem dX9_refersTo_47 : decode cX9_refersTo 47 = .ok (.iadd, 1) := by decide +kernel
theorem dX9_refersTo_48 : decode cX9_refersTo 48 = .ok (.iload 6, 2) := by decide +kernel
theorem dX9_refersTo_50 : decode cX9_refersTo 50 = .ok (.iadd, 1) := by decide +kernel
theorem dX9_refersTo_51 : decode cX9_refersTo 51 = .ok (.iaload, 1) := by decide +kernel
theorem dX9_refersTo_52 : decode cX9_refersTo 52 = .ok (.istore 7, 2) := by decide +kernel
theorem dX9_refersTo_54 : decode cX9_refersTo 54 = .ok (.lload 4, 2) := by decide +kernel
theorem dX9_refersTo_56 : decode cX9_refersTo 56 = .ok (.iload 7, 2) := by decide +kernel
theorem dX9_refersTo_58 : decode cX9_refersTo 58 = .ok (.iconst (-1), 1) := by decide +kernel
theorem dX9_refersTo_59 : decode cX9_refersTo 59 = .ok (.if_icmp .eq 14, 3) := by decide +kernel
theorem dX9_refersTo_62 : decode cX9_refersTo 62 = .ok (.iload_n 1, 1) := by decide +kernel
theorem dX9_refersTo_63 : decode cX9_refersTo 63 = .ok (.iload_n 2, 1) := by decide +kernel
theorem dX9_refersTo_64 : decode cX9_refersTo 64 = .ok (.if_icmp .ne 13, 3) := by decide +kernel
theorem dX9_refersTo_67 : decode cX9_refersTo 67 = .ok (.iload 6, 2) := by decide +kernel
theorem dX9_refersTo_69 : decode cX9_refersTo 69 = .ok (.iload_n 3, 1) := by decide +kernel
theorem dX9_refersTo_70 : decode cX9_refersTo 70 = .ok (.if_icmp .ne 7, 3) := by decide +kernel
theorem dX9_refersTo_73 : decode cX9_refersTo 73 = .ok (.lconst 0, 1) := by decide +kernel
theorem dX9_refersTo_74 : decode cX9_refersTo 74 = .ok (.goto 7, 3) := by decide +kernel
theorem dX9_refersTo_77 : decode cX9_refersTo 77 = .ok (.lconst 1, 1) := by decide +kernel
theorem dX9_refersTo_78 : decode cX9_refersTo 78 = .ok (.iload 7, 2) := by decide +kernel
theorem dX9_refersTo_80 : decode cX9_refersTo 80 = .ok (.lshl, 1) := by decide +kernel
theorem dX9_refersTo_81 : decode cX9_refersTo 81 = .ok (.lor, 1) := by decide +kernel
theorem dX9_refersTo_82 : decode cX9_refersTo 82 = .ok (.lstore 4, 2) := by decide +kernel
theorem dX9_refersTo_84 : decode cX9_refersTo 84 = .ok (.iinc 6 1, 3) := by decide +kernel
theorem dX9_refersTo_87 : decode cX9_refersTo 87 = .ok (.goto (-65), 3) := by decide +kernel
theorem dX9_refersTo_90 : decode cX9_refersTo 90 = .ok (.lload 4, 2) := by decide +kernel
theorem dX9_refersTo_92 : decode cX9_refersTo 92 = .ok (.lreturn, 1) := by decide +kernel
theorem dX9_reached_0 : decode cX9_reached 0 = .ok (.lconst 0, 1) := by decide +kernel
theorem dX9_reached_1 : decode cX9_reached 1 = .ok (.lstore 6, 2) := by decide +kernel
theorem dX9_reached_3 : decode cX9_reached 3 = .ok (.iconst 0, 1) := by decide +kernel
theorem dX9_reached_4 : decode cX9_reached 4 = .ok (.istore 8, 2) := by decide +kernel
theorem dX9_reached_6 : decode cX9_reached 6 = .ok (.iload 8, 2) := by decide +kernel
theorem dX9_reached_8 : decode cX9_reached 8 = .ok (.bipush 40, 2) := by decide +kernel
theorem dX9_reached_10 : decode cX9_reached 10 = .ok (.if_icmp .ge 53, 3) := by decide +kernel
theorem dX9_reached_13 : decode cX9_reached 13 = .ok (.lload 6, 2) := by decide +kernel
theorem dX9_reached_15 : decode cX9_reached 15 = .ok (.aload_n 0, 1) := by decide +kernel
theorem dX9_reached_16 : decode cX9_reached 16 = .ok (.iload 8, 2) := by decide +kernel
theorem dX9_reached_18 : decode cX9_reached 18 = .ok (.invokevirtual 106, 3) := by decide +kernel
theorem dX9_reached_21 : decode cX9_reached 21 = .ok (.ifCond .eq 32, 3) := by decide +kernel
theorem dX9_reached_24 : decode cX9_reached 24 = .ok (.aload_n 0, 1) := by decide +kernel
theorem dX9_reached_25 : decode cX9_reached 25 = .ok (.getfield 7, 3) := by decide +kernel
theorem dX9_reached_28 : decode cX9_reached 28 = .ok (.iload 8, 2) := by decide +kernel
theorem dX9_reached_30 : decode cX9_reached 30 = .ok (.invokestatic 103, 3) := by decide +kernel
theorem dX9_reached_33 : decode cX9_reached 33 = .ok (.iconst 4, 1) := by decide +kernel
theorem dX9_reached_34 : decode cX9_reached 34 = .ok (.iadd, 1) := by decide +kernel
theorem dX9_reached_35 : decode cX9_reached 35 = .ok (.iaload, 1) := by decide +kernel
theorem dX9_reached_36 : decode cX9_reached 36 = .ok (.ifCond .eq 17, 3) := by decide +kernel
theorem dX9_reached_39 : decode cX9_reached 39 = .ok (.iload 8, 2) := by decide +kernel
theorem dX9_reached_41 : decode cX9_reached 41 = .ok (.iload 5, 2) := by decide +kernel
theorem dX9_reached_43 : decode cX9_reached 43 = .ok (.if_icmp .eq 10, 3) := by decide +kernel
theorem dX9_reached_46 : decode cX9_reached 46 = .ok (.lconst 1, 1) := by decide +kernel
theorem dX9_reached_47 : decode cX9_reached 47 = .ok (.iload 8, 2) := by decide +kernel
theorem dX9_reached_49 : decode cX9_reached 49 = .ok (.lshl, 1) := by decide +kernel
theorem dX9_reached_50 : decode cX9_reached 50 = .ok (.goto 4, 3) := by decide +kernel
theorem dX9_reached_53 : decode cX9_reached 53 = .ok (.lconst 0, 1) := by decide +kernel
theorem dX9_reached_54 : decode cX9_reached 54 = .ok (.lor, 1) := by decide +kernel
theorem dX9_reached_55 : decode cX9_reached 55 = .ok (.lstore 6, 2) := by decide +kernel
theorem dX9_reached_57 : decode cX9_reached 57 = .ok (.iinc 8 1, 3) := by decide +kernel
theorem dX9_reached_60 : decode cX9_reached 60 = .ok (.goto (-54), 3) := by decide +kernel
theorem dX9_reached_63 : decode cX9_reached 63 = .ok (.lload 6, 2) := by decide +kernel
theorem dX9_reached_65 : decode cX9_reached 65 = .ok (.lload_n 1, 1) := by decide +kernel
theorem dX9_reached_66 : decode cX9_reached 66 = .ok (.ldc2_w 172, 3) := by decide +kernel
theorem dX9_reached_69 : decode cX9_reached 69 = .ok (.lxor, 1) := by decide +kernel
theorem dX9_reached_70 : decode cX9_reached 70 = .ok (.land, 1) := by decide +kernel
theorem dX9_reached_71 : decode cX9_reached 71 = .ok (.lstore 6, 2) := by decide +kernel
theorem dX9_reached_73 : decode cX9_reached 73 = .ok (.lconst 0, 1) := by decide +kernel
theorem dX9_reached_74 : decode cX9_reached 74 = .ok (.lstore 8, 2) := by decide +kernel
theorem dX9_reached_76 : decode cX9_reached 76 = .ok (.lload 8, 2) := by decide +kernel
theorem dX9_reached_78 : decode cX9_reached 78 = .ok (.lload 6, 2) := by decide +kernel
theorem dX9_reached_80 : decode cX9_reached 80 = .ok (.lcmp, 1) := by decide +kernel
theorem dX9_reached_81 : decode cX9_reached 81 = .ok (.ifCond .eq 73, 3) := by decide +kernel
theorem dX9_reached_84 : decode cX9_reached 84 = .ok (.lload 6, 2) := by decide +kernel
theorem dX9_reached_86 : decode cX9_reached 86 = .ok (.lload 8, 2) := by decide +kernel
theorem dX9_reached_88 : decode cX9_reached 88 = .ok (.ldc2_w 172, 3) := by decide +kernel
theorem dX9_reached_91 : decode cX9_reached 91 = .ok (.lxor, 1) := by decide +kernel
theorem dX9_reached_92 : decode cX9_reached 92 = .ok (.land, 1) := by decide +kernel
theorem dX9_reached_93 : decode cX9_reached 93 = .ok (.lstore 10, 2) := by decide +kernel
theorem dX9_reached_95 : decode cX9_reached 95 = .ok (.lload 6, 2) := by decide +kernel
theorem dX9_reached_97 : decode cX9_reached 97 = .ok (.lstore 8, 2) := by decide +kernel
theorem dX9_reached_99 : decode cX9_reached 99 = .ok (.iconst 0, 1) := by decide +kernel
theorem dX9_reached_100 : decode cX9_reached 100 = .ok (.istore 12, 2) := by decide +kernel
theorem dX9_reached_102 : decode cX9_reached 102 = .ok (.iload 12, 2) := by decide +kernel
theorem dX9_reached_104 : decode cX9_reached 104 = .ok (.bipush 40, 2) := by decide +kernel
theorem dX9_reached_106 : decode cX9_reached 106 = .ok (.if_icmp .ge 45, 3) := by decide +kernel
theorem dX9_reached_109 : decode cX9_reached 109 = .ok (.lload 6, 2) := by decide +kernel
theorem dX9_reached_111 : decode cX9_reached 111 = .ok (.lload 10, 2) := by decide +kernel
theorem dX9_reached_113 : decode cX9_reached 113 = .ok (.iload 12, 2) := by decide +kernel
theorem dX9_reached_115 : decode cX9_reached 115 = .ok (.lshr, 1) := by decide +kernel
theorem dX9_reached_116 : decode cX9_reached 116 = .ok (.lconst 1, 1) := by decide +kernel
theorem dX9_reached_117 : decode cX9_reached 117 = .ok (.land, 1) := by decide +kernel
theorem dX9_reached_118 : decode cX9_reached 118 = .ok (.lconst 1, 1) := by decide +kernel
theorem dX9_reached_119 : decode cX9_reached 119 = .ok (.lcmp, 1) := by decide +kernel
theorem dX9_reached_120 : decode cX9_reached 120 = .ok (.ifCond .ne 21, 3) := by decide +kernel
theorem dX9_reached_123 : decode cX9_reached 123 = .ok (.aload_n 0, 1) := by decide +kernel
theorem dX9_reached_124 : decode cX9_reached 124 = .ok (.iload 12, 2) := by decide +kernel
theorem dX9_reached_126 : decode cX9_reached 126 = .ok (.iload_n 3, 1) := by decide +kernel
theorem dX9_reached_127 : decode cX9_reached 127 = .ok (.iload 4, 2) := by decide +kernel
theorem dX9_reached_129 : decode cX9_reached 129 = .ok (.invokevirtual 174, 3) := by decide +kernel
theorem dX9_reached_132 : decode cX9_reached 132 = .ok (.lload_n 1, 1) := by decide +kernel
theorem dX9_reached_133 : decode cX9_reached 133 = .ok (.ldc2_w 172, 3) := by decide +kernel
theorem dX9_reached_136 : decode cX9_reached 136 = .ok (.lxor, 1) := by decide +kernel
theorem dX9_reached_137 : decode cX9_reached 137 = .ok (.land, 1) := by decide +kernel
theorem dX9_reached_138 : decode cX9_reached 138 = .ok (.goto 4, 3) := by decide +kernel
theorem dX9_reached_141 : decode cX9_reached 141 = .ok (.lconst 0, 1) := by decide +kernel
theorem dX9_reached_142 : decode cX9_reached 142 = .ok (.lor, 1) := by decide +kernel
theorem dX9_reached_143 : decode cX9_reached 143 = .ok (.lstore 6, 2) := by decide +kernel
theorem dX9_reached_145 : decode cX9_reached 145 = .ok (.iinc 12 1, 3) := by decide +kernel
theorem dX9_reached_148 : decode cX9_reached 148 = .ok (.goto (-46), 3) := by decide +kernel
theorem dX9_reached_151 : decode cX9_reached 151 = .ok (.goto (-75), 3) := by decide +kernel
theorem dX9_reached_154 : decode cX9_reached 154 = .ok (.lload 6, 2) := by decide +kernel
theorem dX9_reached_156 : decode cX9_reached 156 = .ok (.lreturn, 1) := by decide +kernel
theorem wd_1323 : (Jvm.Cond.methodLink "HeapBrowserModel" (1 : Nat) ({ cls := "java/lang/Object", name := "<init>", desc := "()V" } : Jvm.MethodName)) ∈ hb_wl := hb_w 1323 (by decide +kernel) (by decide +kernel)
theorem lpX9_init_7 : hb_lkP yX9_init 7 9 0 := ⟨RX9, TX9, 29, rfl, by decide, rfl, Or.inr ⟨rfl, rfl, rfl, hb_w 1324 (by decide +kernel) (by decide +kernel)⟩⟩
theorem lpX9_init_13 : hb_lkP yX9_init 13 9 1 := ⟨RX9, TX9, 29, rfl, by decide, rfl, Or.inr ⟨rfl, rfl, rfl, hb_w 1325 (by decide +kernel) (by decide +kernel)⟩⟩
theorem lpX9_init_16 : hb_lkP yX9_init 16 9 2 := ⟨RX9, TX9, 29, rfl, by decide, rfl, Or.inr ⟨rfl, rfl, rfl, hb_w 1326 (by decide +kernel) (by decide +kernel)⟩⟩
theorem lpX9_init_19 : hb_lkP yX9_init 19 9 5 := ⟨RX9, TX9, 29, rfl, by decide, rfl, Or.inr ⟨rfl, rfl, rfl, hb_w 1329 (by decide +kernel) (by decide +kernel)⟩⟩
theorem lpX9_init_22 : hb_lkP yX9_init 22 9 7 := ⟨RX9, TX9, 29, rfl, by decide, rfl, Or.inr ⟨rfl, rfl, rfl, hb_w 1331 (by decide +kernel) (by decide +kernel)⟩⟩
theorem lpX9_init_25 : hb_lkP yX9_init 25 9 8 := ⟨RX9, TX9, 29, rfl, by decide, rfl, Or.inr ⟨rfl, rfl, rfl, hb_w 1332 (by decide +kernel) (by decide +kernel)⟩⟩
theorem lpX9_init_28 : hb_lkP yX9_init 28 9 9 := ⟨RX9, TX9, 29, rfl, by decide, rfl, Or.inr ⟨rfl, rfl, rfl, hb_w 1333 (by decide +kernel) (by decide +kernel)⟩⟩
theorem wd_183 : (Jvm.Cond.arrayClass Jvm.ClassFile.FieldType.long) ∈ hb_wl := hb_w 183 (by decide +kernel) (by decide +kernel)
theorem lpX9_init_31 : hb_lkP yX9_init 31 9 12 := ⟨RX9, TX9, 29, rfl, by decide, rfl, Or.inr ⟨rfl, rfl, rfl, hb_w 1336 (by decide +kernel) (by decide +kernel)⟩⟩
theorem lpX9_init_35 : hb_lkP yX9_init 35 9 13 := ⟨RX9, TX9, 29, rfl, by decide, rfl, Or.inr ⟨rfl, rfl, rfl, hb_w 1337 (by decide +kernel) (by decide +kernel)⟩⟩
theorem lpX9_init_38 : hb_lkP yX9_init 38 9 14 := ⟨RX9, TX9, 29, rfl, by decide, rfl, Or.inr ⟨rfl, rfl, rfl, hb_w 1338 (by decide +kernel) (by decide +kernel)⟩⟩
theorem lpX9_init_41 : hb_lkP yX9_init 41 9 15 := ⟨RX9, TX9, 29, rfl, by decide, rfl, Or.inr ⟨rfl, rfl, rfl, hb_w 1339 (by decide +kernel) (by decide +kernel)⟩⟩
theorem lpX9_init_44 : hb_lkP yX9_init 44 9 16 := ⟨RX9, TX9, 29, rfl, by decide, rfl, Or.inr ⟨rfl, rfl, rfl, hb_w 1340 (by decide +kernel) (by decide +kernel)⟩⟩
theorem lpX9_init_47 : hb_lkP yX9_init 47 9 17 := ⟨RX9, TX9, 29, rfl, by decide, rfl, Or.inr ⟨rfl, rfl, rfl, hb_w 1341 (by decide +kernel) (by decide +kernel)⟩⟩
theorem lpX9_init_50 : hb_lkP yX9_init 50 9 18 := ⟨RX9, TX9, 29, rfl, by decide, rfl, Or.inr ⟨rfl, rfl, rfl, hb_w 1342 (by decide +kernel) (by decide +kernel)⟩⟩
theorem lpX9_init_53 : hb_lkP yX9_init 53 9 20 := ⟨RX9, TX9, 29, rfl, by decide, rfl, Or.inr ⟨rfl, rfl, rfl, hb_w 1344 (by decide +kernel) (by decide +kernel)⟩⟩
theorem wd_311 : (Jvm.Cond.arrayClass Jvm.ClassFile.FieldType.boolean) ∈ hb_wl := hb_w 311 (by decide +kernel) (by decide +kernel)
theorem lpX9_init_56 : hb_lkP yX9_init 56 9 23 := ⟨RX9, TX9, 29, rfl, by decide, rfl, Or.inr ⟨rfl, rfl, rfl, hb_w 1347 (by decide +kernel) (by decide +kernel)⟩⟩
theorem lpX9_init_60 : hb_lkP yX9_init 60 9 25 := ⟨RX9, TX9, 29, rfl, by decide, rfl, Or.inr ⟨rfl, rfl, rfl, hb_w 1349 (by decide +kernel) (by decide +kernel)⟩⟩
theorem lkX9_7 : hb_lkF RX9 7 9 0 := ⟨RX9, TX9, 29, rfl, by decide, rfl, Or.inl (hb_w 1324 (by decide +kernel) (by decide +kernel))⟩
theorem lkX9_63 : hb_lkF RX9 63 9 4 := ⟨RX9, TX9, 29, rfl, by decide, rfl, Or.inl (hb_w 1328 (by decide +kernel) (by decide +kernel))⟩
theorem lpX9_refused_63 : hb_lkP yX9_refused 63 9 4 := ⟨RX9, TX9, 29, rfl, by decide, rfl, Or.inl ⟨rfl, Or.inl (hb_w 1328 (by decide +kernel) (by decide +kernel))⟩⟩
theorem lkX9_67 : hb_lkF RX9 67 9 3 := ⟨RX9, TX9, 29, rfl, by decide, rfl, Or.inl (hb_w 1327 (by decide +kernel) (by decide +kernel))⟩
theorem lpX9_keeps_67 : hb_lkP yX9_keeps 67 9 3 := ⟨RX9, TX9, 29, rfl, by decide, rfl, Or.inl ⟨rfl, Or.inl (hb_w 1327 (by decide +kernel) (by decide +kernel))⟩⟩
theorem lkX9_13 : hb_lkF RX9 13 9 1 := ⟨RX9, TX9, 29, rfl, by decide, rfl, Or.inl (hb_w 1325 (by decide +kernel) (by decide +kernel))⟩
theorem lmX9_70 : Cond.methodLink RX9 70 yX9_keeps ∈ hb_wl := hb_w 1443 (by decide +kernel) (by decide +kernel)
theorem lmX9_74 : Cond.methodLink RX9 74 yX9_refused ∈ hb_wl := hb_w 1420 (by decide +kernel) (by decide +kernel)
theorem lpX9_undo_67 : hb_lkP yX9_undo 67 9 3 := ⟨RX9, TX9, 29, rfl, by decide, rfl, Or.inl ⟨rfl, Or.inl (hb_w 1327 (by decide +kernel) (by decide +kernel))⟩⟩
theorem lmX9_78 : Cond.methodLink RX9 78 yX9_within ∈ hb_wl := hb_w 1432 (by decide +kernel) (by decide +kernel)
theorem lmX9_82 : Cond.methodLink RX9 82 yX9_fieldsOf ∈ hb_wl := hb_w 1435 (by decide +kernel) (by decide +kernel)
theorem lmX9_89 : Cond.methodLink RX9 89 yX9_saves ∈ hb_wl := hb_w 1439 (by decide +kernel) (by decide +kernel)
theorem lmX9_86 : Cond.methodLink RX9 86 yX9_isClass ∈ hb_wl := hb_w 1428 (by decide +kernel) (by decide +kernel)
theorem lpX9_classes_63 : hb_lkP yX9_classes 63 9 4 := ⟨RX9, TX9, 29, rfl, by decide, rfl, Or.inl ⟨rfl, Or.inl (hb_w 1328 (by decide +kernel) (by decide +kernel))⟩⟩
theorem lmX9_92 : Cond.methodLink RX9 92 yX9_sizeOfClass ∈ hb_wl := hb_w 1459 (by decide +kernel) (by decide +kernel)
theorem lmX9_95 : Cond.methodLink RX9 95 yX9_classBy ∈ hb_wl := hb_w 1455 (by decide +kernel) (by decide +kernel)
theorem lmX9_99 : Cond.methodLink RX9 99 yX9_isBelow ∈ hb_wl := hb_w 1467 (by decide +kernel) (by decide +kernel)
theorem lmX9_103 : Cond.methodLink RX9 103 yX9_at ∈ hb_wl := hb_w 1487 (by decide +kernel) (by decide +kernel)
theorem lmX9_106 : Cond.methodLink RX9 106 yX9_isObject ∈ hb_wl := hb_w 1483 (by decide +kernel) (by decide +kernel)
theorem lmX9_109 : Cond.methodLink RX9 109 yX9_sizeOf ∈ hb_wl := hb_w 1563 (by decide +kernel) (by decide +kernel)
theorem lmX9_112 : Cond.methodLink RX9 112 yX9_many ∈ hb_wl := hb_w 1479 (by decide +kernel) (by decide +kernel)
theorem lmX9_116 : Cond.methodLink RX9 116 yX9_instanceRefusal ∈ hb_wl := hb_w 1475 (by decide +kernel) (by decide +kernel)
theorem lmX9_119 : Cond.methodLink RX9 119 yX9_creates ∈ hb_wl := hb_w 1490 (by decide +kernel) (by decide +kernel)
theorem lmX9_122 : Cond.methodLink RX9 122 yX9_arrayRefusal ∈ hb_wl := hb_w 1498 (by decide +kernel) (by decide +kernel)
theorem lmX9_125 : Cond.methodLink RX9 125 yX9_isSlot ∈ hb_wl := hb_w 1514 (by decide +kernel) (by decide +kernel)
theorem lmX9_128 : Cond.methodLink RX9 128 yX9_setRefusal ∈ hb_wl := hb_w 1510 (by decide +kernel) (by decide +kernel)
theorem lmX9_132 : Cond.methodLink RX9 132 yX9_rootRefusal ∈ hb_wl := hb_w 1534 (by decide +kernel) (by decide +kernel)
theorem lmX9_135 : Cond.methodLink RX9 135 yX9_unrootRefusal ∈ hb_wl := hb_w 1542 (by decide +kernel) (by decide +kernel)
theorem lmX9_174 : Cond.methodLink RX9 174 yX9_refersTo ∈ hb_wl := hb_w 1559 (by decide +kernel) (by decide +kernel)
theorem wd_1558 : (Jvm.Cond.constantLong "HeapBrowserModel" (172 : Nat) (-1 : Int64)) ∈ hb_wl := hb_w 1558 (by decide +kernel) (by decide +kernel)
