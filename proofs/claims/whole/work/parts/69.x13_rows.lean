theorem dX1_init_0 : decode cX1_init 0 = .ok (.aload_n 0, 1) := by decide +kernel
theorem dX1_init_1 : decode cX1_init 1 = .ok (.invokespecial 3, 3) := by decide +kernel
theorem dX1_init_4 : decode cX1_init 4 = .ok (.aload_n 0, 1) := by decide +kernel
theorem dX1_init_5 : decode cX1_init 5 = .ok (.bipush 100, 2) := by decide +kernel
theorem dX1_init_7 : decode cX1_init 7 = .ok (.newarray .int, 2) := by decide +kernel
theorem dX1_init_9 : decode cX1_init 9 = .ok (.putfield 9, 3) := by decide +kernel
theorem dX1_init_12 : decode cX1_init 12 = .ok (.aload_n 0, 1) := by decide +kernel
theorem dX1_init_13 : decode cX1_init 13 = .ok (.bipush 100, 2) := by decide +kernel
theorem dX1_init_15 : decode cX1_init 15 = .ok (.newarray .int, 2) := by decide +kernel
theorem dX1_init_17 : decode cX1_init 17 = .ok (.putfield 15, 3) := by decide +kernel
theorem dX1_init_20 : decode cX1_init 20 = .ok (.aload_n 0, 1) := by decide +kernel
theorem dX1_init_21 : decode cX1_init 21 = .ok (.bipush 100, 2) := by decide +kernel
theorem dX1_init_23 : decode cX1_init 23 = .ok (.newarray .int, 2) := by decide +kernel
theorem dX1_init_25 : decode cX1_init 25 = .ok (.putfield 18, 3) := by decide +kernel
theorem dX1_init_28 : decode cX1_init 28 = .ok (.aload_n 0, 1) := by decide +kernel
theorem dX1_init_29 : decode cX1_init 29 = .ok (.bipush 100, 2) := by decide +kernel
theorem dX1_init_31 : decode cX1_init 31 = .ok (.newarray .int, 2) := by decide +kernel
theorem dX1_init_33 : decode cX1_init 33 = .ok (.putfield 21, 3) := by decide +kernel
theorem dX1_init_36 : decode cX1_init 36 = .ok (.aload_n 0, 1) := by decide +kernel
theorem dX1_init_37 : decode cX1_init 37 = .ok (.aload_n 1, 1) := by decide +kernel
theorem dX1_init_38 : decode cX1_init 38 = .ok (.putfield 24, 3) := by decide +kernel
theorem dX1_init_41 : decode cX1_init 41 = .ok (.aload_n 0, 1) := by decide +kernel
theorem dX1_init_42 : decode cX1_init 42 = .ok (.aload_n 2, 1) := by decide +kernel
theorem dX1_init_43 : decode cX1_init 43 = .ok (.putfield 28, 3) := by decide +kernel
theorem dX1_init_46 : decode cX1_init 46 = .ok (.aload_n 0, 1) := by decide +kernel
theorem dX1_init_47 : decode cX1_init 47 = .ok (.aload_n 3, 1) := by decide +kernel
theorem dX1_init_48 : decode cX1_init 48 = .ok (.putfield 32, 3) := by decide +kernel
theorem dX1_init_51 : decode cX1_init 51 = .ok (.return_, 1) := by decide +kernel
theorem dX1_readPair_0 : decode cX1_readPair 0 = .ok (.aload_n 0, 1) := by decide +kernel
theorem dX1_readPair_1 : decode cX1_readPair 1 = .ok (.getfield 15, 3) := by decide +kernel
theorem dX1_readPair_4 : decode cX1_readPair 4 = .ok (.aload_n 0, 1) := by decide +kernel
theorem dX1_readPair_5 : decode cX1_readPair 5 = .ok (.getfield 41, 3) := by decide +kernel
theorem dX1_readPair_8 : decode cX1_readPair 8 = .ok (.aload_n 0, 1) := by decide +kernel
theorem dX1_readPair_9 : decode cX1_readPair 9 = .ok (.getfield 32, 3) := by decide +kernel
theorem dX1_readPair_12 : decode cX1_readPair 12 = .ok (.iconst 2, 1) := by decide +kernel
theorem dX1_readPair_13 : decode cX1_readPair 13 = .ok (.invokevirtual 62, 3) := by decide +kernel
theorem dX1_readPair_16 : decode cX1_readPair 16 = .ok (.iastore, 1) := by decide +kernel
theorem dX1_readPair_17 : decode cX1_readPair 17 = .ok (.aload_n 0, 1) := by decide +kernel
theorem dX1_readPair_18 : decode cX1_readPair 18 = .ok (.getfield 32, 3) := by decide +kernel
theorem dX1_readPair_21 : decode cX1_readPair 21 = .ok (.bipush 44, 2) := by decide +kernel
theorem dX1_readPair_23 : decode cX1_readPair 23 = .ok (.invokevirtual 69, 3) := by decide +kernel
theorem dX1_readPair_26 : decode cX1_readPair 26 = .ok (.aload_n 0, 1) := by decide +kernel
theorem dX1_readPair_27 : decode cX1_readPair 27 = .ok (.getfield 18, 3) := by decide +kernel
theorem dX1_readPair_30 : decode cX1_readPair 30 = .ok (.aload_n 0, 1) := by decide +kernel
theorem dX1_readPair_31 : decode cX1_readPair 31 = .ok (.getfield 41, 3) := by decide +kernel
theorem dX1_readPair_34 : decode cX1_readPair 34 = .ok (.aload_n 0, 1) := by decide +kernel
theorem dX1_readPair_35 : decode cX1_readPair 35 = .ok (.getfield 32, 3) := by decide +kernel
theorem dX1_readPair_38 : decode cX1_readPair 38 = .ok (.iconst 2, 1) := by decide +kernel
theorem dX1_readPair_39 : decode cX1_readPair 39 = .ok (.invokevirtual 62, 3) := by decide +kernel
theorem dX1_readPair_42 : decode cX1_readPair 42 = .ok (.iastore, 1) := by decide +kernel
theorem dX1_readPair_43 : decode cX1_readPair 43 = .ok (.return_, 1) := by decide +kernel
theorem dX1_readOne_0 : decode cX1_readOne 0 = .ok (.aload_n 0, 1) := by decide +kernel
theorem dX1_readOne_1 : decode cX1_readOne 1 = .ok (.getfield 9, 3) := by decide +kernel
theorem dX1_readOne_4 : decode cX1_readOne 4 = .ok (.aload_n 0, 1) := by decide +kernel
theorem dX1_readOne_5 : decode cX1_readOne 5 = .ok (.getfield 41, 3) := by decide +kernel
theorem dX1_readOne_8 : decode cX1_readOne 8 = .ok (.aload_n 0, 1) := by decide +kernel
theorem dX1_readOne_9 : decode cX1_readOne 9 = .ok (.getfield 32, 3) := by decide +kernel
theorem dX1_readOne_12 : decode cX1_readOne 12 = .ok (.ldc 56, 2) := by decide +kernel
theorem dX1_readOne_14 : decode cX1_readOne 14 = .ok (.invokevirtual 58, 3) := by decide +kernel
theorem dX1_readOne_17 : decode cX1_readOne 17 = .ok (.iastore, 1) := by decide +kernel
theorem dX1_readOne_18 : decode cX1_readOne 18 = .ok (.aload_n 0, 1) := by decide +kernel
theorem dX1_readOne_19 : decode cX1_readOne 19 = .ok (.getfield 9, 3) := by decide +kernel
theorem dX1_readOne_22 : decode cX1_readOne 22 = .ok (.aload_n 0, 1) := by decide +kernel
theorem dX1_readOne_23 : decode cX1_readOne 23 = .ok (.getfield 41, 3) := by decide +kernel
theorem dX1_readOne_26 : decode cX1_readOne 26 = .ok (.iaload, 1) := by decide +kernel
theorem dX1_readOne_27 : decode cX1_readOne 27 = .ok (.lookupswitch 125 #[(43, 118), (45, 118), (97, 49), (110, 49), (115, 69)], 49) := by decide +kernel
theorem dX1_readOne_76 : decode cX1_readOne 76 = .ok (.aload_n 0, 1) := by decide +kernel
theorem dX1_readOne_77 : decode cX1_readOne 77 = .ok (.getfield 15, 3) := by decide +kernel
theorem dX1_readOne_80 : decode cX1_readOne 80 = .ok (.aload_n 0, 1) := by decide +kernel
theorem dX1_readOne_81 : decode cX1_readOne 81 = .ok (.getfield 41, 3) := by decide +kernel
theorem dX1_readOne_84 : decode cX1_readOne 84 = .ok (.aload_n 0, 1) := by decide +kernel
theorem dX1_readOne_85 : decode cX1_readOne 85 = .ok (.getfield 32, 3) := by decide +kernel
theorem dX1_readOne_88 : decode cX1_readOne 88 = .ok (.iconst 1, 1) := by decide +kernel
theorem dX1_readOne_89 : decode cX1_readOne 89 = .ok (.invokevirtual 62, 3) := by decide +kernel
theorem dX1_readOne_92 : decode cX1_readOne 92 = .ok (.iastore, 1) := by decide +kernel
theorem dX1_readOne_93 : decode cX1_readOne 93 = .ok (.goto 59, 3) := by decide +kernel
theorem dX1_readOne_96 : decode cX1_readOne 96 = .ok (.aload_n 0, 1) := by decide +kernel
theorem dX1_readOne_97 : decode cX1_readOne 97 = .ok (.invokevirtual 66, 3) := by decide +kernel
theorem dX1_readOne_100 : decode cX1_readOne 100 = .ok (.aload_n 0, 1) := by decide +kernel
theorem dX1_readOne_101 : decode cX1_readOne 101 = .ok (.getfield 32, 3) := by decide +kernel
theorem dX1_readOne_104 : decode cX1_readOne 104 = .ok (.bipush 44, 2) := by decide +kernel
theorem dX1_readOne_106 : decode cX1_readOne 106 = .ok (.invokevirtual 69, 3) := by decide +kernel
theorem dX1_readOne_109 : decode cX1_readOne 109 = .ok (.aload_n 0, 1) := by decide +kernel
theorem dX1_readOne_110 : decode cX1_readOne 110 = .ok (.getfield 21, 3) := by decide +kernel
theorem dX1_readOne_113 : decode cX1_readOne 113 = .ok (.aload_n 0, 1) := by decide +kernel
theorem dX1_readOne_114 : decode cX1_readOne 114 = .ok (.getfield 41, 3) := by decide +kernel
theorem dX1_readOne_117 : decode cX1_readOne 117 = .ok (.aload_n 0, 1) := by decide +kernel
theorem dX1_readOne_118 : decode cX1_readOne 118 = .ok (.getfield 32, 3) := by decide +kernel
theorem dX1_readOne_121 : decode cX1_readOne 121 = .ok (.bipush 45, 2) := by decide +kernel
theorem dX1_readOne_123 : decode cX1_readOne 123 = .ok (.invokevirtual 73, 3) := by decide +kernel
theorem dX1_readOne_126 : decode cX1_readOne 126 = .ok (.ifCond .eq 7, 3) := by decide +kernel
theorem dX1_readOne_129 : decode cX1_readOne 129 = .ok (.iconst (-1), 1) := by decide +kernel
theorem dX1_readOne_130 : decode cX1_readOne 130 = .ok (.goto 11, 3) := by decide +kernel
theorem dX1_readOne_133 : decode cX1_readOne 133 = .ok (.aload_n 0, 1) := by decide +kernel
theorem dX1_readOne_134 : decode cX1_readOne 134 = .ok (.getfield 32, 3) := by decide +kernel
theorem dX1_readOne_137 : decode cX1_readOne 137 = .ok (.iconst 2, 1) := by decide +kernel
theorem dX1_readOne_138 : decode cX1_readOne 138 = .ok (.invokevirtual 62, 3) := by decide +kernel
theorem dX1_readOne_141 : decode cX1_readOne 141 = .ok (.iastore, 1) := by decide +kernel
theorem dX1_readOne_142 : decode cX1_readOne 142 = .ok (.goto 10, 3) := by decide +kernel
theorem dX1_readOne_145 : decode cX1_readOne 145 = .ok (.aload_n 0, 1) := by decide +kernel
theorem dX1_readOne_146 : decode cX1_readOne 146 = .ok (.invokevirtual 66, 3) := by decide +kernel
theorem dX1_readOne_149 : decode cX1_readOne 149 = .ok (.goto 3, 3) := by decide +kernel
theorem dX1_readOne_152 : decode cX1_readOne 152 = .ok (.aload_n 0, 1) := by decide +kernel
theorem dX1_readOne_153 : decode cX1_readOne 153 = .ok (.getfield 32, 3) := by decide +kernel
theorem dX1_readOne_156 : decode cX1_readOne 156 = .ok (.bipush 59, 2) := by decide +kernel
theorem dX1_readOne_158 : decode cX1_readOne 158 = .ok (.invokevirtual 69, 3) := by decide +kernel
theorem dX1_readOne_161 : decode cX1_readOne 161 = .ok (.return_, 1) := by decide +kernel
theorem dX1_read_0 : decode cX1_read 0 = .ok (.aload_n 0, 1) := by decide +kernel
theorem dX1_read_1 : decode cX1_read 1 = .ok (.getfield 32, 3) := by decide +kernel
theorem dX1_read_4 : decode cX1_read 4 = .ok (.invokevirtual 36, 3) := by decide +kernel
theorem dX1_read_7 : decode cX1_read 7 = .ok (.aload_n 0, 1) := by decide +kernel
theorem dX1_read_8 : decode cX1_read 8 = .ok (.iconst 0, 1) := by decide +kernel
theorem dX1_read_9 : decode cX1_read 9 = .ok (.putfield 41, 3) := by decide +kernel
theorem dX1_read_12 : decode cX1_read 12 = .ok (.aload_n 0, 1) := by decide +kernel
theorem dX1_read_13 : decode cX1_read 13 = .ok (.getfield 41, 3) := by decide +kernel
theorem dX1_read_16 : decode cX1_read 16 = .ok (.bipush 100, 2) := by decide +kernel
theorem dX1_read_18 : decode cX1_read 18 = .ok (.if_icmp .ge 40, 3) := by decide +kernel
theorem dX1_read_21 : decode cX1_read 21 = .ok (.aload_n 0, 1) := by decide +kernel
theorem dX1_read_22 : decode cX1_read 22 = .ok (.getfield 32, 3) := by decide +kernel
theorem dX1_read_25 : decode cX1_read 25 = .ok (.getfield 45, 3) := by decide +kernel
theorem dX1_read_28 : decode cX1_read 28 = .ok (.ifCond .ne 30, 3) := by decide +kernel
theorem dX1_read_31 : decode cX1_read 31 = .ok (.aload_n 0, 1) := by decide +kernel
theorem dX1_read_32 : decode cX1_read 32 = .ok (.getfield 32, 3) := by decide +kernel
theorem dX1_read_35 : decode cX1_read 35 = .ok (.invokevirtual 49, 3) := by decide +kernel
theorem dX1_read_38 : decode cX1_read 38 = .ok (.ifCond .ne 20, 3) := by decide +kernel
theorem dX1_read_41 : decode cX1_read 41 = .ok (.aload_n 0, 1) := by decide +kernel
theorem dX1_read_42 : decode cX1_read 42 = .ok (.invokevirtual 53, 3) := by decide +kernel
theorem dX1_read_45 : decode cX1_read 45 = .ok (.aload_n 0, 1) := by decide +kernel
theorem dX1_read_46 : decode cX1_read 46 = .ok (.dup, 1) := by decide +kernel
theorem dX1_read_47 : decode cX1_read 47 = .ok (.getfield 41, 3) := by decide +kernel
theorem dX1_read_50 : decode cX1_read 50 = .ok (.iconst 1, 1) := by decide +kernel
theorem dX1_read_51 : decode cX1_read 51 = .ok (.iadd, 1) := by decide +kernel
theorem dX1_read_52 : decode cX1_read 52 = .ok (.putfield 41, 3) := by decide +kernel
theorem dX1_read_55 : decode cX1_read 55 = .ok (.goto (-43), 3) := by decide +kernel
theorem dX1_read_58 : decode cX1_read 58 = .ok (.return_, 1) := by decide +kernel
theorem dX1_problemOfCommand_0 : decode cX1_problemOfCommand 0 = .ok (.aload_n 0, 1) := by decide +kernel
theorem dX1_problemOfCommand_1 : decode cX1_problemOfCommand 1 = .ok (.getfield 9, 3) := by decide +kernel
theorem dX1_problemOfCommand_4 : decode cX1_problemOfCommand 4 = .ok (.iload_n 1, 1) := by decide +kernel
theorem dX1_problemOfCommand_5 : decode cX1_problemOfCommand 5 = .ok (.iaload, 1) := by decide +kernel
theorem dX1_problemOfCommand_6 : decode cX1_problemOfCommand 6 = .ok (.lookupswitch 160 #[(43, 120), (45, 140), (97, 72), (110, 58), (115, 94), (119, 86)], 58) := by decide +kernel
theorem dX1_problemOfCommand_64 : decode cX1_problemOfCommand 64 = .ok (.aload_n 0, 1) := by decide +kernel
theorem dX1_problemOfCommand_65 : decode cX1_problemOfCommand 65 = .ok (.getfield 24, 3) := by decide +kernel
theorem dX1_problemOfCommand_68 : decode cX1_problemOfCommand 68 = .ok (.aload_n 0, 1) := by decide +kernel
theorem dX1_problemOfCommand_69 : decode cX1_problemOfCommand 69 = .ok (.getfield 15, 3) := by decide +kernel
theorem dX1_problemOfCommand_72 : decode cX1_problemOfCommand 72 = .ok (.iload_n 1, 1) := by decide +kernel
theorem dX1_problemOfCommand_73 : decode cX1_problemOfCommand 73 = .ok (.iaload, 1) := by decide +kernel
theorem dX1_problemOfCommand_74 : decode cX1_problemOfCommand 74 = .ok (.invokevirtual 84, 3) := by decide +kernel
theorem dX1_problemOfCommand_77 : decode cX1_problemOfCommand 77 = .ok (.ireturn, 1) := by decide +kernel
theorem dX1_problemOfCommand_78 : decode cX1_problemOfCommand 78 = .ok (.aload_n 0, 1) := by decide +kernel
theorem dX1_problemOfCommand_79 : decode cX1_problemOfCommand 79 = .ok (.getfield 24, 3) := by decide +kernel
theorem dX1_problemOfCommand_82 : decode cX1_problemOfCommand 82 = .ok (.aload_n 0, 1) := by decide +kernel
theorem dX1_problemOfCommand_83 : decode cX1_problemOfCommand 83 = .ok (.getfield 15, 3) := by decide +kernel
theorem dX1_problemOfCommand_86 : decode cX1_problemOfCommand 86 = .ok (.iload_n 1, 1) := by decide +kernel
theorem dX1_problemOfCommand_87 : decode cX1_problemOfCommand 87 = .ok (.iaload, 1) := by decide +kernel
theorem dX1_problemOfCommand_88 : decode cX1_problemOfCommand 88 = .ok (.invokevirtual 89, 3) := by decide +kernel
theorem dX1_problemOfCommand_91 : decode cX1_problemOfCommand 91 = .ok (.ireturn, 1) := by decide +kernel
theorem dX1_problemOfCommand_92 : decode cX1_problemOfCommand 92 = .ok (.aload_n 0, 1) := by decide +kernel
theorem dX1_problemOfCommand_93 : decode cX1_problemOfCommand 93 = .ok (.getfield 24, 3) := by decide +kernel
theorem dX1_problemOfCommand_96 : decode cX1_problemOfCommand 96 = .ok (.invokevirtual 92, 3) := by decide +kernel
theorem dX1_problemOfCommand_99 : decode cX1_problemOfCommand 99 = .ok (.ireturn, 1) := by decide +kernel
theorem dX1_problemOfCommand_100 : decode cX1_problemOfCommand 100 = .ok (.aload_n 0, 1) := by decide +kernel
theorem dX1_problemOfCommand_101 : decode cX1_problemOfCommand 101 = .ok (.getfield 24, 3) := by decide +kernel
theorem dX1_problemOfCommand_104 : decode cX1_problemOfCommand 104 = .ok (.aload_n 0, 1) := by decide +kernel
theorem dX1_problemOfCommand_105 : decode cX1_problemOfCommand 105 = .ok (.getfield 15, 3) := by decide +kernel
theorem dX1_problemOfCommand_108 : decode cX1_problemOfCommand 108 = .ok (.iload_n 1, 1) := by decide +kernel
theorem dX1_problemOfCommand_109 : decode cX1_problemOfCommand 109 = .ok (.iaload, 1) := by decide +kernel
theorem dX1_problemOfCommand_110 : decode cX1_problemOfCommand 110 = .ok (.aload_n 0, 1) := by decide +kernel
theorem dX1_problemOfCommand_111 : decode cX1_problemOfCommand 111 = .ok (.getfield 18, 3) := by decide +kernel
theorem dX1_problemOfCommand_114 : decode cX1_problemOfCommand 114 = .ok (.iload_n 1, 1) := by decide +kernel
theorem dX1_problemOfCommand_115 : decode cX1_problemOfCommand 115 = .ok (.iaload, 1) := by decide +kernel
theorem dX1_problemOfCommand_116 : decode cX1_problemOfCommand 116 = .ok (.aload_n 0, 1) := by decide +kernel
theorem dX1_problemOfCommand_117 : decode cX1_problemOfCommand 117 = .ok (.getfield 21, 3) := by decide +kernel
theorem dX1_problemOfCommand_120 : decode cX1_problemOfCommand 120 = .ok (.iload_n 1, 1) := by decide +kernel
theorem dX1_problemOfCommand_121 : decode cX1_problemOfCommand 121 = .ok (.iaload, 1) := by decide +kernel
theorem dX1_problemOfCommand_122 : decode cX1_problemOfCommand 122 = .ok (.invokevirtual 96, 3) := by decide +kernel
theorem dX1_problemOfCommand_125 : decode cX1_problemOfCommand 125 = .ok (.ireturn, 1) := by decide +kernel
theorem dX1_problemOfCommand_126 : decode cX1_problemOfCommand 126 = .ok (.aload_n 0, 1) := by decide +kernel
theorem dX1_problemOfCommand_127 : decode cX1_problemOfCommand 127 = .ok (.getfield 24, 3) := by decide +kernel
theorem dX1_problemOfCommand_130 : decode cX1_problemOfCommand 130 = .ok (.aload_n 0, 1) := by decide +kernel
theorem dX1_problemOfCommand_131 : decode cX1_problemOfCommand 131 = .ok (.getfield 15, 3) := by decide +kernel
theorem dX1_problemOfCommand_134 : decode cX1_problemOfCommand 134 = .ok (.iload_n 1, 1) := by decide +kernel
theorem dX1_problemOfCommand_135 : decode cX1_problemOfCommand 135 = .ok (.iaload, 1) := by decide +kernel
theorem dX1_problemOfCommand_136 : decode cX1_problemOfCommand 136 = .ok (.aload_n 0, 1) := by decide +kernel
theorem dX1_problemOfCommand_137 : decode cX1_problemOfCommand 137 = .ok (.getfield 18, 3) := by decide +kernel
theorem dX1_problemOfCommand_140 : decode cX1_problemOfCommand 140 = .ok (.iload_n 1, 1) := by decide +kernel
theorem dX1_problemOfCommand_141 : decode cX1_problemOfCommand 141 = .ok (.iaload, 1) := by decide +kernel
theorem dX1_problemOfCommand_142 : decode cX1_problemOfCommand 142 = .ok (.invokevirtual 100, 3) := by decide +kernel
theorem dX1_problemOfCommand_145 : decode cX1_problemOfCommand 145 = .ok (.ireturn, 1) := by decide +kernel
theorem dX1_problemOfCommand_146 : decode cX1_problemOfCommand 146 = .ok (.aload_n 0, 1) := by decide +kernel
theorem dX1_problemOfCommand_147 : decode cX1_problemOfCommand 147 = .ok (.getfield 24, 3) := by decide +kernel
theorem dX1_problemOfCommand_150 : decode cX1_problemOfCommand 150 = .ok (.aload_n 0, 1) := by decide +kernel
theorem dX1_problemOfCommand_151 : decode cX1_problemOfCommand 151 = .ok (.getfield 15, 3) := by decide +kernel
theorem dX1_problemOfCommand_154 : decode cX1_problemOfCommand 154 = .ok (.iload_n 1, 1) := by decide +kernel
theorem dX1_problemOfCommand_155 : decode cX1_problemOfCommand 155 = .ok (.iaload, 1) := by decide +kernel
theorem dX1_problemOfCommand_156 : decode cX1_problemOfCommand 156 = .ok (.aload_n 0, 1) := by decide +kernel
theorem dX1_problemOfCommand_157 : decode cX1_problemOfCommand 157 = .ok (.getfield 18, 3) := by decide +kernel
theorem dX1_problemOfCommand_160 : decode cX1_problemOfCommand 160 = .ok (.iload_n 1, 1) := by decide +kernel
theorem dX1_problemOfCommand_161 : decode cX1_problemOfCommand 161 = .ok (.iaload, 1) := by decide +kernel
theorem dX1_problemOfCommand_162 : decode cX1_problemOfCommand 162 = .ok (.invokevirtual 104, 3) := by decide +kernel
theorem dX1_problemOfCommand_165 : decode cX1_problemOfCommand 165 = .ok (.ireturn, 1) := by decide +kernel
theorem dX1_problemOfCommand_166 : decode cX1_problemOfCommand 166 = .ok (.iconst 0, 1) := by decide +kernel
theorem dX1_problemOfCommand_167 : decode cX1_problemOfCommand 167 = .ok (.ireturn, 1) := by decide +kernel
theorem dX1_runOne_0 : decode cX1_runOne 0 = .ok (.aload_n 0, 1) := by decide +kernel
theorem dX1_runOne_1 : decode cX1_runOne 1 = .ok (.getfield 15, 3) := by decide +kernel
theorem dX1_runOne_4 : decode cX1_runOne 4 = .ok (.iload_n 1, 1) := by decide +kernel
theorem dX1_runOne_5 : decode cX1_runOne 5 = .ok (.iaload, 1) := by decide +kernel
theorem dX1_runOne_6 : decode cX1_runOne 6 = .ok (.istore_n 2, 1) := by decide +kernel
theorem dX1_runOne_7 : decode cX1_runOne 7 = .ok (.aload_n 0, 1) := by decide +kernel
theorem dX1_runOne_8 : decode cX1_runOne 8 = .ok (.getfield 18, 3) := by decide +kernel
theorem dX1_runOne_11 : decode cX1_runOne 11 = .ok (.iload_n 1, 1) := by decide +kernel
theorem dX1_runOne_12 : decode cX1_runOne 12 = .ok (.iaload, 1) := by decide +kernel
theorem dX1_runOne_13 : decode cX1_runOne 13 = .ok (.istore_n 3, 1) := by decide +kernel
theorem dX1_runOne_14 : decode cX1_runOne 14 = .ok (.aload_n 0, 1) := by decide +kernel
theorem dX1_runOne_15 : decode cX1_runOne 15 = .ok (.getfield 9, 3) := by decide +kernel
theorem dX1_runOne_18 : decode cX1_runOne 18 = .ok (.iload_n 1, 1) := by decide +kernel
theorem dX1_runOne_19 : decode cX1_runOne 19 = .ok (.iaload, 1) := by decide +kernel
theorem dX1_runOne_20 : decode cX1_runOne 20 = .ok (.lookupswitch 166 #[(43, 114), (45, 139), (97, 72), (110, 60), (115, 95), (119, 84)], 60) := by decide +kernel
theorem dX1_runOne_80 : decode cX1_runOne 80 = .ok (.aload_n 0, 1) := by decide +kernel
theorem dX1_runOne_81 : decode cX1_runOne 81 = .ok (.getfield 24, 3) := by decide +kernel
theorem dX1_runOne_84 : decode cX1_runOne 84 = .ok (.iload_n 2, 1) := by decide +kernel
theorem dX1_runOne_85 : decode cX1_runOne 85 = .ok (.invokevirtual 107, 3) := by decide +kernel
theorem dX1_runOne_88 : decode cX1_runOne 88 = .ok (.pop, 1) := by decide +kernel
theorem dX1_runOne_89 : decode cX1_runOne 89 = .ok (.goto 105, 3) := by decide +kernel
theorem dX1_runOne_92 : decode cX1_runOne 92 = .ok (.aload_n 0, 1) := by decide +kernel
theorem dX1_runOne_93 : decode cX1_runOne 93 = .ok (.getfield 24, 3) := by decide +kernel
theorem dX1_runOne_96 : decode cX1_runOne 96 = .ok (.iload_n 2, 1) := by decide +kernel
theorem dX1_runOne_97 : decode cX1_runOne 97 = .ok (.invokevirtual 110, 3) := by decide +kernel
theorem dX1_runOne_100 : decode cX1_runOne 100 = .ok (.pop, 1) := by decide +kernel
theorem dX1_runOne_101 : decode cX1_runOne 101 = .ok (.goto 93, 3) := by decide +kernel
theorem dX1_runOne_104 : decode cX1_runOne 104 = .ok (.aload_n 0, 1) := by decide +kernel
theorem dX1_runOne_105 : decode cX1_runOne 105 = .ok (.getfield 24, 3) := by decide +kernel
theorem dX1_runOne_108 : decode cX1_runOne 108 = .ok (.invokevirtual 113, 3) := by decide +kernel
theorem dX1_runOne_111 : decode cX1_runOne 111 = .ok (.pop, 1) := by decide +kernel
theorem dX1_runOne_112 : decode cX1_runOne 112 = .ok (.goto 82, 3) := by decide +kernel
theorem dX1_runOne_115 : decode cX1_runOne 115 = .ok (.aload_n 0, 1) := by decide +kernel
theorem dX1_runOne_116 : decode cX1_runOne 116 = .ok (.getfield 24, 3) := by decide +kernel
theorem dX1_runOne_119 : decode cX1_runOne 119 = .ok (.iload_n 2, 1) := by decide +kernel
theorem dX1_runOne_120 : decode cX1_runOne 120 = .ok (.iload_n 3, 1) := by decide +kernel
theorem dX1_runOne_121 : decode cX1_runOne 121 = .ok (.aload_n 0, 1) := by decide +kernel
theorem dX1_runOne_122 : decode cX1_runOne 122 = .ok (.getfield 21, 3) := by decide +kernel
theorem dX1_runOne_125 : decode cX1_runOne 125 = .ok (.iload_n 1, 1) := by decide +kernel
theorem dX1_runOne_126 : decode cX1_runOne 126 = .ok (.iaload, 1) := by decide +kernel
theorem dX1_runOne_127 : decode cX1_runOne 127 = .ok (.invokevirtual 116, 3) := by decide +kernel
theorem dX1_runOne_130 : decode cX1_runOne 130 = .ok (.pop, 1) := by decide +kernel
theorem dX1_runOne_131 : decode cX1_runOne 131 = .ok (.goto 63, 3) := by decide +kernel
theorem dX1_runOne_134 : decode cX1_runOne 134 = .ok (.aload_n 0, 1) := by decide +kernel
theorem dX1_runOne_135 : decode cX1_runOne 135 = .ok (.getfield 24, 3) := by decide +kernel
theorem dX1_runOne_138 : decode cX1_runOne 138 = .ok (.iload_n 2, 1) := by decide +kernel
theorem dX1_runOne_139 : decode cX1_runOne 139 = .ok (.aload_n 0, 1) := by decide +kernel
theorem dX1_runOne_140 : decode cX1_runOne 140 = .ok (.getfield 24, 3) := by decide +kernel
theorem dX1_runOne_143 : decode cX1_runOne 143 = .ok (.getfield 119, 3) := by decide +kernel
theorem dX1_runOne_146 : decode cX1_runOne 146 = .ok (.iload_n 2, 1) := by decide +kernel
theorem dX1_runOne_147 : decode cX1_runOne 147 = .ok (.iaload, 1) := by decide +kernel
theorem dX1_runOne_148 : decode cX1_runOne 148 = .ok (.iconst 1, 1) := by decide +kernel
theorem dX1_runOne_149 : decode cX1_runOne 149 = .ok (.iload_n 3, 1) := by decide +kernel
theorem dX1_runOne_150 : decode cX1_runOne 150 = .ok (.ishl, 1) := by decide +kernel
theorem dX1_runOne_151 : decode cX1_runOne 151 = .ok (.ior, 1) := by decide +kernel
theorem dX1_runOne_152 : decode cX1_runOne 152 = .ok (.invokevirtual 122, 3) := by decide +kernel
theorem dX1_runOne_155 : decode cX1_runOne 155 = .ok (.pop, 1) := by decide +kernel
theorem dX1_runOne_156 : decode cX1_runOne 156 = .ok (.goto 38, 3) := by decide +kernel
theorem dX1_runOne_159 : decode cX1_runOne 159 = .ok (.aload_n 0, 1) := by decide +kernel
theorem dX1_runOne_160 : decode cX1_runOne 160 = .ok (.getfield 24, 3) := by decide +kernel
theorem dX1_runOne_163 : decode cX1_runOne 163 = .ok (.iload_n 2, 1) := by decide +kernel
theorem dX1_runOne_164 : decode cX1_runOne 164 = .ok (.aload_n 0, 1) := by decide +kernel
theorem dX1_runOne_165 : decode cX1_runOne 165 = .ok (.getfield 24, 3) := by decide +kernel
theorem dX1_runOne_168 : decode cX1_runOne 168 = .ok (.getfield 119, 3) := by decide +kernel
theorem dX1_runOne_171 : decode cX1_runOne 171 = .ok (.iload_n 2, 1) := by decide +kernel
theorem dX1_runOne_172 : decode cX1_runOne 172 = .ok (.iaload, 1) := by decide +kernel
theorem dX1_runOne_173 : decode cX1_runOne 173 = .ok (.iconst 1, 1) := by decide +kernel
theorem dX1_runOne_174 : decode cX1_runOne 174 = .ok (.iload_n 3, 1) := by decide +kernel
theorem dX1_runOne_175 : decode cX1_runOne 175 = .ok (.ishl, 1) := by decide +kernel
theorem dX1_runOne_176 : decode cX1_runOne 176 = .ok (.iconst (-1), 1) := by decide +kernel
theorem dX1_runOne_177 : decode cX1_runOne 177 = .ok (.ixor, 1) := by decide +kernel
theorem dX1_runOne_178 : decode cX1_runOne 178 = .ok (.iand, 1) := by decide +kernel
theorem dX1_runOne_179 : decode cX1_runOne 179 = .ok (.invokevirtual 122, 3) := by decide +kernel
theorem dX1_runOne_182 : decode cX1_runOne 182 = .ok (.pop, 1) := by decide +kernel
theorem dX1_runOne_183 : decode cX1_runOne 183 = .ok (.goto 11, 3) := by decide +kernel
theorem dX1_runOne_186 : decode cX1_runOne 186 = .ok (.aload_n 0, 1) := by decide +kernel
theorem dX1_runOne_187 : decode cX1_runOne 187 = .ok (.getfield 28, 3) := by decide +kernel
theorem dX1_runOne_190 : decode cX1_runOne 190 = .ok (.invokevirtual 125, 3) := by decide +kernel
theorem dX1_runOne_193 : decode cX1_runOne 193 = .ok (.pop, 1) := by decide +kernel
theorem dX1_runOne_194 : decode cX1_runOne 194 = .ok (.return_, 1) := by decide +kernel
theorem dX1_run_0 : decode cX1_run 0 = .ok (.iconst 0, 1) := by decide +kernel
theorem dX1_run_1 : decode cX1_run 1 = .ok (.istore_n 1, 1) := by decide +kernel
theorem dX1_run_2 : decode cX1_run 2 = .ok (.iload_n 1, 1) := by decide +kernel
theorem dX1_run_3 : decode cX1_run 3 = .ok (.aload_n 0, 1) := by decide +kernel
theorem dX1_run_4 : decode cX1_run 4 = .ok (.getfield 41, 3) := by decide +kernel
theorem dX1_run_7 : decode cX1_run 7 = .ok (.if_icmp .ge 30, 3) := by decide +kernel
theorem dX1_run_10 : decode cX1_run 10 = .ok (.iload_n 1, 1) := by decide +kernel
theorem dX1_run_11 : decode cX1_run 11 = .ok (.bipush 100, 2) := by decide +kernel
theorem dX1_run_13 : decode cX1_run 13 = .ok (.if_icmp .ge 24, 3) := by decide +kernel
theorem dX1_run_16 : decode cX1_run 16 = .ok (.aload_n 0, 1) := by decide +kernel
theorem dX1_run_17 : decode cX1_run 17 = .ok (.iload_n 1, 1) := by decide +kernel
theorem dX1_run_18 : decode cX1_run 18 = .ok (.invokevirtual 77, 3) := by decide +kernel
theorem dX1_run_21 : decode cX1_run 21 = .ok (.ifCond .eq 5, 3) := by decide +kernel
theorem dX1_run_24 : decode cX1_run 24 = .ok (.iload_n 1, 1) := by decide +kernel
theorem dX1_run_25 : decode cX1_run 25 = .ok (.ireturn, 1) := by decide +kernel
theorem dX1_run_26 : decode cX1_run 26 = .ok (.aload_n 0, 1) := by decide +kernel
theorem dX1_run_27 : decode cX1_run 27 = .ok (.iload_n 1, 1) := by decide +kernel
theorem dX1_run_28 : decode cX1_run 28 = .ok (.invokevirtual 80, 3) := by decide +kernel
theorem dX1_run_31 : decode cX1_run 31 = .ok (.iinc 1 1, 3) := by decide +kernel
theorem dX1_run_34 : decode cX1_run 34 = .ok (.goto (-32), 3) := by decide +kernel
theorem dX1_run_37 : decode cX1_run 37 = .ok (.iconst (-1), 1) := by decide +kernel
theorem dX1_run_38 : decode cX1_run 38 = .ok (.ireturn, 1) := by decide +kernel
theorem dX3_init_0 : decode cX3_init 0 = .ok (.aload_n 0, 1) := by decide +kernel
theorem dX3_init_1 : decode cX3_init 1 = .ok (.invokespecial 3, 3) := by decide +kernel
theorem dX3_init_4 : decode cX3_init 4 = .ok (.aload_n 0, 1) := by decide +kernel
theorem dX3_init_5 : decode cX3_init 5 = .ok (.aload_n 1, 1) := by decide +kernel
theorem dX3_init_6 : decode cX3_init 6 = .ok (.putfield 9, 3) := by decide +kernel
theorem dX3_init_9 : decode cX3_init 9 = .ok (.aload_n 0, 1) := by decide +kernel
theorem dX3_init_10 : decode cX3_init 10 = .ok (.aload_n 2, 1) := by decide +kernel
theorem dX3_init_11 : decode cX3_init 11 = .ok (.putfield 15, 3) := by decide +kernel
theorem dX3_init_14 : decode cX3_init 14 = .ok (.aload_n 0, 1) := by decide +kernel
theorem dX3_init_15 : decode cX3_init 15 = .ok (.aload_n 3, 1) := by decide +kernel
theorem dX3_init_16 : decode cX3_init 16 = .ok (.putfield 19, 3) := by decide +kernel
theorem dX3_init_19 : decode cX3_init 19 = .ok (.return_, 1) := by decide +kernel
theorem dX3_negated_0 : decode cX3_negated 0 = .ok (.iconst 0, 1) := by decide +kernel
theorem dX3_negated_1 : decode cX3_negated 1 = .ok (.istore_n 1, 1) := by decide +kernel
theorem dX3_negated_2 : decode cX3_negated 2 = .ok (.iconst 0, 1) := by decide +kernel
theorem dX3_negated_3 : decode cX3_negated 3 = .ok (.istore_n 2, 1) := by decide +kernel
theorem dX3_negated_4 : decode cX3_negated 4 = .ok (.iload_n 2, 1) := by decide +kernel
theorem dX3_negated_5 : decode cX3_negated 5 = .ok (.bipush 100, 2) := by decide +kernel
theorem dX3_negated_7 : decode cX3_negated 7 = .ok (.if_icmp .ge 31, 3) := by decide +kernel
theorem dX3_negated_10 : decode cX3_negated 10 = .ok (.aload_n 0, 1) := by decide +kernel
theorem dX3_negated_11 : decode cX3_negated 11 = .ok (.getfield 19, 3) := by decide +kernel
theorem dX3_negated_14 : decode cX3_negated 14 = .ok (.bipush 33, 2) := by decide +kernel
theorem dX3_negated_16 : decode cX3_negated 16 = .ok (.invokevirtual 47, 3) := by decide +kernel
theorem dX3_negated_19 : decode cX3_negated 19 = .ok (.ifCond .eq 19, 3) := by decide +kernel
theorem dX3_negated_22 : decode cX3_negated 22 = .ok (.iload_n 1, 1) := by decide +kernel
theorem dX3_negated_23 : decode cX3_negated 23 = .ok (.ifCond .ne 7, 3) := by decide +kernel
theorem dX3_negated_26 : decode cX3_negated 26 = .ok (.iconst 1, 1) := by decide +kernel
theorem dX3_negated_27 : decode cX3_negated 27 = .ok (.goto 4, 3) := by decide +kernel
theorem dX3_negated_30 : decode cX3_negated 30 = .ok (.iconst 0, 1) := by decide +kernel
theorem dX3_negated_31 : decode cX3_negated 31 = .ok (.istore_n 1, 1) := by decide +kernel
theorem dX3_negated_32 : decode cX3_negated 32 = .ok (.iinc 2 1, 3) := by decide +kernel
theorem dX3_negated_35 : decode cX3_negated 35 = .ok (.goto (-31), 3) := by decide +kernel
theorem dX3_negated_38 : decode cX3_negated 38 = .ok (.iload_n 1, 1) := by decide +kernel
theorem dX3_negated_39 : decode cX3_negated 39 = .ok (.ireturn, 1) := by decide +kernel
theorem dX3_instancesOf_0 : decode cX3_instancesOf 0 = .ok (.aload_n 0, 1) := by decide +kernel
theorem dX3_instancesOf_1 : decode cX3_instancesOf 1 = .ok (.getfield 9, 3) := by decide +kernel
theorem dX3_instancesOf_4 : decode cX3_instancesOf 4 = .ok (.iload_n 1, 1) := by decide +kernel
theorem dX3_instancesOf_5 : decode cX3_instancesOf 5 = .ok (.invokevirtual 82, 3) := by decide +kernel
theorem dX3_instancesOf_8 : decode cX3_instancesOf 8 = .ok (.ifCond .eq 15, 3) := by decide +kernel
theorem dX3_instancesOf_11 : decode cX3_instancesOf 11 = .ok (.aload_n 0, 1) := by decide +kernel
theorem dX3_instancesOf_12 : decode cX3_instancesOf 12 = .ok (.getfield 9, 3) := by decide +kernel
theorem dX3_instancesOf_15 : decode cX3_instancesOf 15 = .ok (.iload_n 1, 1) := by decide +kernel
theorem dX3_instancesOf_16 : decode cX3_instancesOf 16 = .ok (.iconst 1, 1) := by decide +kernel
theorem dX3_instancesOf_17 : decode cX3_instancesOf 17 = .ok (.invokevirtual 86, 3) := by decide +kernel
theorem dX3_instancesOf_20 : decode cX3_instancesOf 20 = .ok (.goto 4, 3) := by decide +kernel
theorem dX3_instancesOf_23 : decode cX3_instancesOf 23 = .ok (.lconst 0, 1) := by decide +kernel
theorem dX3_instancesOf_24 : decode cX3_instancesOf 24 = .ok (.lreturn, 1) := by decide +kernel
theorem dX3_valueOf_0 : decode cX3_valueOf 0 = .ok (.iload_n 2, 1) := by decide +kernel
theorem dX3_valueOf_1 : decode cX3_valueOf 1 = .ok (.tableswitch 177 97 115 #[165, 177, 177, 111, 177, 177, 177, 177, 145, 177, 177, 177, 177, 175, 155, 177, 177, 101, 91], 91) := by decide +kernel
theorem dX3_valueOf_92 : decode cX3_valueOf 92 = .ok (.aload_n 0, 1) := by decide +kernel
theorem dX3_valueOf_93 : decode cX3_valueOf 93 = .ok (.getfield 9, 3) := by decide +kernel
theorem dX3_valueOf_96 : decode cX3_valueOf 96 = .ok (.getfield 116, 3) := by decide +kernel
theorem dX3_valueOf_99 : decode cX3_valueOf 99 = .ok (.iload_n 1, 1) := by decide +kernel
theorem dX3_valueOf_100 : decode cX3_valueOf 100 = .ok (.iaload, 1) := by decide +kernel
theorem dX3_valueOf_101 : decode cX3_valueOf 101 = .ok (.ireturn, 1) := by decide +kernel
theorem dX3_valueOf_102 : decode cX3_valueOf 102 = .ok (.aload_n 0, 1) := by decide +kernel
theorem dX3_valueOf_103 : decode cX3_valueOf 103 = .ok (.getfield 15, 3) := by decide +kernel
theorem dX3_valueOf_106 : decode cX3_valueOf 106 = .ok (.getfield 120, 3) := by decide +kernel
theorem dX3_valueOf_109 : decode cX3_valueOf 109 = .ok (.iload_n 1, 1) := by decide +kernel
theorem dX3_valueOf_110 : decode cX3_valueOf 110 = .ok (.iaload, 1) := by decide +kernel
theorem dX3_valueOf_111 : decode cX3_valueOf 111 = .ok (.ireturn, 1) := by decide +kernel
theorem dX3_valueOf_112 : decode cX3_valueOf 112 = .ok (.aload_n 0, 1) := by decide +kernel
theorem dX3_valueOf_113 : decode cX3_valueOf 113 = .ok (.getfield 15, 3) := by decide +kernel
theorem dX3_valueOf_116 : decode cX3_valueOf 116 = .ok (.getfield 123, 3) := by decide +kernel
theorem dX3_valueOf_119 : decode cX3_valueOf 119 = .ok (.getfield 127, 3) := by decide +kernel
theorem dX3_valueOf_122 : decode cX3_valueOf 122 = .ok (.iload_n 1, 1) := by decide +kernel
theorem dX3_valueOf_123 : decode cX3_valueOf 123 = .ok (.iaload, 1) := by decide +kernel
theorem dX3_valueOf_124 : decode cX3_valueOf 124 = .ok (.iconst (-1), 1) := by decide +kernel
theorem dX3_valueOf_125 : decode cX3_valueOf 125 = .ok (.if_icmp .ne 8, 3) := by decide +kernel
theorem dX3_valueOf_128 : decode cX3_valueOf 128 = .ok (.bipush 99, 2) := by decide +kernel
theorem dX3_valueOf_130 : decode cX3_valueOf 130 = .ok (.goto 15, 3) := by decide +kernel
theorem dX3_valueOf_133 : decode cX3_valueOf 133 = .ok (.aload_n 0, 1) := by decide +kernel
theorem dX3_valueOf_134 : decode cX3_valueOf 134 = .ok (.getfield 15, 3) := by decide +kernel
theorem dX3_valueOf_137 : decode cX3_valueOf 137 = .ok (.getfield 123, 3) := by decide +kernel
theorem dX3_valueOf_140 : decode cX3_valueOf 140 = .ok (.getfield 127, 3) := by decide +kernel
theorem dX3_valueOf_143 : decode cX3_valueOf 143 = .ok (.iload_n 1, 1) := by decide +kernel
theorem dX3_valueOf_144 : decode cX3_valueOf 144 = .ok (.iaload, 1) := by decide +kernel
theorem dX3_valueOf_145 : decode cX3_valueOf 145 = .ok (.ireturn, 1) := by decide +kernel
theorem dX3_valueOf_146 : decode cX3_valueOf 146 = .ok (.aload_n 0, 1) := by decide +kernel
theorem dX3_valueOf_147 : decode cX3_valueOf 147 = .ok (.getfield 15, 3) := by decide +kernel
theorem dX3_valueOf_150 : decode cX3_valueOf 150 = .ok (.getfield 132, 3) := by decide +kernel
theorem dX3_valueOf_153 : decode cX3_valueOf 153 = .ok (.iload_n 1, 1) := by decide +kernel
theorem dX3_valueOf_154 : decode cX3_valueOf 154 = .ok (.iaload, 1) := by decide +kernel
theorem dX3_valueOf_155 : decode cX3_valueOf 155 = .ok (.ireturn, 1) := by decide +kernel
theorem dX3_valueOf_156 : decode cX3_valueOf 156 = .ok (.aload_n 0, 1) := by decide +kernel
theorem dX3_valueOf_157 : decode cX3_valueOf 157 = .ok (.getfield 15, 3) := by decide +kernel
theorem dX3_valueOf_160 : decode cX3_valueOf 160 = .ok (.getfield 135, 3) := by decide +kernel
theorem dX3_valueOf_163 : decode cX3_valueOf 163 = .ok (.iload_n 1, 1) := by decide +kernel
theorem dX3_valueOf_164 : decode cX3_valueOf 164 = .ok (.iaload, 1) := by decide +kernel
theorem dX3_valueOf_165 : decode cX3_valueOf 165 = .ok (.ireturn, 1) := by decide +kernel
theorem dX3_valueOf_166 : decode cX3_valueOf 166 = .ok (.aload_n 0, 1) := by decide +kernel
theorem dX3_valueOf_167 : decode cX3_valueOf 167 = .ok (.getfield 9, 3) := by decide +kernel
theorem dX3_valueOf_170 : decode cX3_valueOf 170 = .ok (.getfield 138, 3) := by decide +kernel
theorem dX3_valueOf_173 : decode cX3_valueOf 173 = .ok (.iload_n 1, 1) := by decide +kernel
theorem dX3_valueOf_174 : decode cX3_valueOf 174 = .ok (.iaload, 1) := by decide +kernel
theorem dX3_valueOf_175 : decode cX3_valueOf 175 = .ok (.ireturn, 1) := by decide +kernel
theorem dX3_valueOf_176 : decode cX3_valueOf 176 = .ok (.iload_n 1, 1) := by decide +kernel
theorem dX3_valueOf_177 : decode cX3_valueOf 177 = .ok (.ireturn, 1) := by decide +kernel
theorem dX3_valueOf_178 : decode cX3_valueOf 178 = .ok (.aload_n 0, 1) := by decide +kernel
theorem dX3_valueOf_179 : decode cX3_valueOf 179 = .ok (.getfield 9, 3) := by decide +kernel
theorem dX3_valueOf_182 : decode cX3_valueOf 182 = .ok (.getfield 141, 3) := by decide +kernel
theorem dX3_valueOf_185 : decode cX3_valueOf 185 = .ok (.iload_n 1, 1) := by decide +kernel
theorem dX3_valueOf_186 : decode cX3_valueOf 186 = .ok (.iaload, 1) := by decide +kernel
theorem dX3_valueOf_187 : decode cX3_valueOf 187 = .ok (.ireturn, 1) := by decide +kernel
theorem dX3_isSo_0 : decode cX3_isSo 0 = .ok (.iload_n 1, 1) := by decide +kernel
theorem dX3_isSo_1 : decode cX3_isSo 1 = .ok (.lookupswitch 49 #[(60, 27), (61, 38)], 27) := by decide +kernel
theorem dX3_isSo_28 : decode cX3_isSo 28 = .ok (.iload_n 0, 1) := by decide +kernel
theorem dX3_isSo_29 : decode cX3_isSo 29 = .ok (.iload_n 2, 1) := by decide +kernel
theorem dX3_isSo_30 : decode cX3_isSo 30 = .ok (.if_icmp .ge 7, 3) := by decide +kernel
theorem dX3_isSo_33 : decode cX3_isSo 33 = .ok (.iconst 1, 1) := by decide +kernel
theorem dX3_isSo_34 : decode cX3_isSo 34 = .ok (.goto 4, 3) := by decide +kernel
theorem dX3_isSo_37 : decode cX3_isSo 37 = .ok (.iconst 0, 1) := by decide +kernel
theorem dX3_isSo_38 : decode cX3_isSo 38 = .ok (.ireturn, 1) := by decide +kernel
theorem dX3_isSo_39 : decode cX3_isSo 39 = .ok (.iload_n 0, 1) := by decide +kernel
theorem dX3_isSo_40 : decode cX3_isSo 40 = .ok (.iload_n 2, 1) := by decide +kernel
theorem dX3_isSo_41 : decode cX3_isSo 41 = .ok (.if_icmp .ne 7, 3) := by decide +kernel
theorem dX3_isSo_44 : decode cX3_isSo 44 = .ok (.iconst 1, 1) := by decide +kernel
theorem dX3_isSo_45 : decode cX3_isSo 45 = .ok (.goto 4, 3) := by decide +kernel
theorem dX3_isSo_48 : decode cX3_isSo 48 = .ok (.iconst 0, 1) := by decide +kernel
theorem dX3_isSo_49 : decode cX3_isSo 49 = .ok (.ireturn, 1) := by decide +kernel
theorem dX3_isSo_50 : decode cX3_isSo 50 = .ok (.iload_n 0, 1) := by decide +kernel
theorem dX3_isSo_51 : decode cX3_isSo 51 = .ok (.iload_n 2, 1) := by decide +kernel
theorem dX3_isSo_52 : decode cX3_isSo 52 = .ok (.if_icmp .le 7, 3) := by decide +kernel
theorem dX3_isSo_55 : decode cX3_isSo 55 = .ok (.iconst 1, 1) := by decide +kernel
theorem dX3_isSo_56 : decode cX3_isSo 56 = .ok (.goto 4, 3) := by decide +kernel
theorem dX3_isSo_59 : decode cX3_isSo 59 = .ok (.iconst 0, 1) := by decide +kernel
theorem dX3_isSo_60 : decode cX3_isSo 60 = .ok (.ireturn, 1) := by decide +kernel
theorem dX3_relation_0 : decode cX3_relation 0 = .ok (.aload_n 0, 1) := by decide +kernel
theorem dX3_relation_1 : decode cX3_relation 1 = .ok (.getfield 19, 3) := by decide +kernel
theorem dX3_relation_4 : decode cX3_relation 4 = .ok (.ldc 90, 2) := by decide +kernel
theorem dX3_relation_6 : decode cX3_relation 6 = .ok (.invokevirtual 92, 3) := by decide +kernel
theorem dX3_relation_9 : decode cX3_relation 9 = .ok (.istore_n 1, 1) := by decide +kernel
theorem dX3_relation_10 : decode cX3_relation 10 = .ok (.aload_n 0, 1) := by decide +kernel
theorem dX3_relation_11 : decode cX3_relation 11 = .ok (.getfield 19, 3) := by decide +kernel
theorem dX3_relation_14 : decode cX3_relation 14 = .ok (.ldc 96, 2) := by decide +kernel
theorem dX3_relation_16 : decode cX3_relation 16 = .ok (.invokevirtual 92, 3) := by decide +kernel
theorem dX3_relation_19 : decode cX3_relation 19 = .ok (.istore_n 2, 1) := by decide +kernel
theorem dX3_relation_20 : decode cX3_relation 20 = .ok (.aload_n 0, 1) := by decide +kernel
theorem dX3_relation_21 : decode cX3_relation 21 = .ok (.getfield 19, 3) := by decide +kernel
theorem dX3_relation_24 : decode cX3_relation 24 = .ok (.iconst 4, 1) := by decide +kernel
theorem dX3_relation_25 : decode cX3_relation 25 = .ok (.invokevirtual 67, 3) := by decide +kernel
theorem dX3_relation_28 : decode cX3_relation 28 = .ok (.istore_n 3, 1) := by decide +kernel
theorem dX3_relation_29 : decode cX3_relation 29 = .ok (.lconst 0, 1) := by decide +kernel
theorem dX3_relation_30 : decode cX3_relation 30 = .ok (.lstore 4, 2) := by decide +kernel
theorem dX3_relation_32 : decode cX3_relation 32 = .ok (.iconst 0, 1) := by decide +kernel
theorem dX3_relation_33 : decode cX3_relation 33 = .ok (.istore 6, 2) := by decide +kernel
theorem dX3_relation_35 : decode cX3_relation 35 = .ok (.iload 6, 2) := by decide +kernel
theorem dX3_relation_37 : decode cX3_relation 37 = .ok (.bipush 40, 2) := by decide +kernel
theorem dX3_relation_39 : decode cX3_relation 39 = .ok (.if_icmp .ge 72, 3) := by decide +kernel
theorem dX3_relation_42 : decode cX3_relation 42 = .ok (.aload_n 0, 1) := by decide +kernel
theorem dX3_relation_43 : decode cX3_relation 43 = .ok (.getfield 19, 3) := by decide +kernel
theorem dX3_relation_46 : decode cX3_relation 46 = .ok (.getfield 98, 3) := by decide +kernel
theorem dX3_relation_49 : decode cX3_relation 49 = .ok (.ifCond .ne 62, 3) := by decide +kernel
theorem dX3_relation_52 : decode cX3_relation 52 = .ok (.aload_n 0, 1) := by decide +kernel
theorem dX3_relation_53 : decode cX3_relation 53 = .ok (.getfield 9, 3) := by decide +kernel
theorem dX3_relation_56 : decode cX3_relation 56 = .ok (.iload 6, 2) := by decide +kernel
theorem dX3_relation_58 : decode cX3_relation 58 = .ok (.invokevirtual 102, 3) := by decide +kernel
theorem dX3_relation_61 : decode cX3_relation 61 = .ok (.ifCond .eq 22, 3) := by decide +kernel
theorem dX3_relation_64 : decode cX3_relation 64 = .ok (.aload_n 0, 1) := by decide +kernel
theorem dX3_relation_65 : decode cX3_relation 65 = .ok (.iload 6, 2) := by decide +kernel
theorem dX3_relation_67 : decode cX3_relation 67 = .ok (.iload_n 1, 1) := by decide +kernel
theorem dX3_relation_68 : decode cX3_relation 68 = .ok (.invokevirtual 105, 3) := by decide +kernel
theorem dX3_relation_71 : decode cX3_relation 71 = .ok (.iload_n 2, 1) := by decide +kernel
theorem dX3_relation_72 : decode cX3_relation 72 = .ok (.iload_n 3, 1) := by decide +kernel
theorem dX3_relation_73 : decode cX3_relation 73 = .ok (.invokestatic 109, 3) := by decide +kernel
theorem dX3_relation_76 : decode cX3_relation 76 = .ok (.ifCond .eq 7, 3) := by decide +kernel
theorem dX3_relation_79 : decode cX3_relation 79 = .ok (.iconst 1, 1) := by decide +kernel
theorem dX3_relation_80 : decode cX3_relation 80 = .ok (.goto 4, 3) := by decide +kernel
theorem dX3_relation_83 : decode cX3_relation 83 = .ok (.iconst 0, 1) := by decide +kernel
theorem dX3_relation_84 : decode cX3_relation 84 = .ok (.istore 7, 2) := by decide +kernel
theorem dX3_relation_86 : decode cX3_relation 86 = .ok (.lload 4, 2) := by decide +kernel
theorem dX3_relation_88 : decode cX3_relation 88 = .ok (.iload 7, 2) := by decide +kernel
theorem dX3_relation_90 : decode cX3_relation 90 = .ok (.ifCond .eq 11, 3) := by decide +kernel
theorem dX3_relation_93 : decode cX3_relation 93 = .ok (.iload 6, 2) := by decide +kernel
theorem dX3_relation_95 : decode cX3_relation 95 = .ok (.invokestatic 113, 3) := by decide +kernel
theorem dX3_relation_98 : decode cX3_relation 98 = .ok (.goto 4, 3) := by decide +kernel
theorem dX3_relation_101 : decode cX3_relation 101 = .ok (.lconst 0, 1) := by decide +kernel
theorem dX3_relation_102 : decode cX3_relation 102 = .ok (.lor, 1) := by decide +kernel
theorem dX3_relation_103 : decode cX3_relation 103 = .ok (.lstore 4, 2) := by decide +kernel
theorem dX3_relation_105 : decode cX3_relation 105 = .ok (.iinc 6 1, 3) := by decide +kernel
theorem dX3_relation_108 : decode cX3_relation 108 = .ok (.goto (-73), 3) := by decide +kernel
theorem dX3_relation_111 : decode cX3_relation 111 = .ok (.lload 4, 2) := by decide +kernel
theorem dX3_relation_113 : decode cX3_relation 113 = .ok (.lreturn, 1) := by decide +kernel
theorem dX3_unit_0 : decode cX3_unit 0 = .ok (.aload_n 0, 1) := by decide +kernel
theorem dX3_unit_1 : decode cX3_unit 1 = .ok (.invokevirtual 54, 3) := by decide +kernel
theorem dX3_unit_4 : decode cX3_unit 4 = .ok (.istore_n 2, 1) := by decide +kernel
theorem dX3_unit_5 : decode cX3_unit 5 = .ok (.iload_n 1, 1) := by decide +kernel
theorem dX3_unit_6 : decode cX3_unit 6 = .ok (.bipush 8, 2) := by decide +kernel
theorem dX3_unit_8 : decode cX3_unit 8 = .ok (.if_icmp .ge 35, 3) := by decide +kernel
theorem dX3_unit_11 : decode cX3_unit 11 = .ok (.aload_n 0, 1) := by decide +kernel
theorem dX3_unit_12 : decode cX3_unit 12 = .ok (.getfield 19, 3) := by decide +kernel
theorem dX3_unit_15 : decode cX3_unit 15 = .ok (.bipush 40, 2) := by decide +kernel
theorem dX3_unit_17 : decode cX3_unit 17 = .ok (.invokevirtual 47, 3) := by decide +kernel
theorem dX3_unit_20 : decode cX3_unit 20 = .ok (.ifCond .eq 23, 3) := by decide +kernel
theorem dX3_unit_23 : decode cX3_unit 23 = .ok (.aload_n 0, 1) := by decide +kernel
theorem dX3_unit_24 : decode cX3_unit 24 = .ok (.iload_n 1, 1) := by decide +kernel
theorem dX3_unit_25 : decode cX3_unit 25 = .ok (.iconst 1, 1) := by decide +kernel
theorem dX3_unit_26 : decode cX3_unit 26 = .ok (.iadd, 1) := by decide +kernel
theorem dX3_unit_27 : decode cX3_unit 27 = .ok (.invokevirtual 33, 3) := by decide +kernel
theorem dX3_unit_30 : decode cX3_unit 30 = .ok (.lstore_n 3, 1) := by decide +kernel
theorem dX3_unit_31 : decode cX3_unit 31 = .ok (.aload_n 0, 1) := by decide +kernel
theorem dX3_unit_32 : decode cX3_unit 32 = .ok (.getfield 19, 3) := by decide +kernel
theorem dX3_unit_35 : decode cX3_unit 35 = .ok (.bipush 41, 2) := by decide +kernel
theorem dX3_unit_37 : decode cX3_unit 37 = .ok (.invokevirtual 57, 3) := by decide +kernel
theorem dX3_unit_40 : decode cX3_unit 40 = .ok (.goto 59, 3) := by decide +kernel
theorem dX3_unit_43 : decode cX3_unit 43 = .ok (.aload_n 0, 1) := by decide +kernel
theorem dX3_unit_44 : decode cX3_unit 44 = .ok (.getfield 19, 3) := by decide +kernel
theorem dX3_unit_47 : decode cX3_unit 47 = .ok (.bipush 42, 2) := by decide +kernel
theorem dX3_unit_49 : decode cX3_unit 49 = .ok (.invokevirtual 47, 3) := by decide +kernel
theorem dX3_unit_52 : decode cX3_unit 52 = .ok (.ifCond .eq 14, 3) := by decide +kernel
theorem dX3_unit_55 : decode cX3_unit 55 = .ok (.aload_n 0, 1) := by decide +kernel
theorem dX3_unit_56 : decode cX3_unit 56 = .ok (.getfield 9, 3) := by decide +kernel
theorem dX3_unit_59 : decode cX3_unit 59 = .ok (.invokevirtual 61, 3) := by decide +kernel
theorem dX3_unit_62 : decode cX3_unit 62 = .ok (.lstore_n 3, 1) := by decide +kernel
theorem dX3_unit_63 : decode cX3_unit 63 = .ok (.goto 36, 3) := by decide +kernel
theorem dX3_unit_66 : decode cX3_unit 66 = .ok (.aload_n 0, 1) := by decide +kernel
theorem dX3_unit_67 : decode cX3_unit 67 = .ok (.getfield 19, 3) := by decide +kernel
theorem dX3_unit_70 : decode cX3_unit 70 = .ok (.bipush 64, 2) := by decide +kernel
theorem dX3_unit_72 : decode cX3_unit 72 = .ok (.invokevirtual 47, 3) := by decide +kernel
theorem dX3_unit_75 : decode cX3_unit 75 = .ok (.ifCond .eq 19, 3) := by decide +kernel
theorem dX3_unit_78 : decode cX3_unit 78 = .ok (.aload_n 0, 1) := by decide +kernel
theorem dX3_unit_79 : decode cX3_unit 79 = .ok (.aload_n 0, 1) := by decide +kernel
theorem dX3_unit_80 : decode cX3_unit 80 = .ok (.getfield 19, 3) := by decide +kernel
theorem dX3_unit_83 : decode cX3_unit 83 = .ok (.iconst 1, 1) := by decide +kernel
theorem dX3_unit_84 : decode cX3_unit 84 = .ok (.invokevirtual 67, 3) := by decide +kernel
theorem dX3_unit_87 : decode cX3_unit 87 = .ok (.invokevirtual 71, 3) := by decide +kernel
theorem dX3_unit_90 : decode cX3_unit 90 = .ok (.lstore_n 3, 1) := by decide +kernel
theorem dX3_unit_91 : decode cX3_unit 91 = .ok (.goto 8, 3) := by decide +kernel
theorem dX3_unit_94 : decode cX3_unit 94 = .ok (.aload_n 0, 1) := by decide +kernel
theorem dX3_unit_95 : decode cX3_unit 95 = .ok (.invokevirtual 74, 3) := by decide +kernel
theorem dX3_unit_98 : decode cX3_unit 98 = .ok (.lstore_n 3, 1) := by decide +kernel
theorem dX3_unit_99 : decode cX3_unit 99 = .ok (.iload_n 2, 1) := by decide +kernel
theorem dX3_unit_100 : decode cX3_unit 100 = .ok (.ifCond .eq 19, 3) := by decide +kernel
theorem dX3_unit_103 : decode cX3_unit 103 = .ok (.aload_n 0, 1) := by decide +kernel
theorem dX3_unit_104 : decode cX3_unit 104 = .ok (.getfield 9, 3) := by decide +kernel
theorem dX3_unit_107 : decode cX3_unit 107 = .ok (.invokevirtual 77, 3) := by decide +kernel
theorem dX3_unit_110 : decode cX3_unit 110 = .ok (.lload_n 3, 1) := by decide +kernel
theorem dX3_unit_111 : decode cX3_unit 111 = .ok (.ldc2_w 80, 3) := by decide +kernel
theorem dX3_unit_114 : decode cX3_unit 114 = .ok (.lxor, 1) := by decide +kernel
theorem dX3_unit_115 : decode cX3_unit 115 = .ok (.land, 1) := by decide +kernel
theorem dX3_unit_116 : decode cX3_unit 116 = .ok (.goto 4, 3) := by decide +kernel
theorem dX3_unit_119 : decode cX3_unit 119 = .ok (.lload_n 3, 1) := by decide +kernel
theorem dX3_unit_120 : decode cX3_unit 120 = .ok (.lreturn, 1) := by decide +kernel
theorem dX3_part_0 : decode cX3_part 0 = .ok (.aload_n 0, 1) := by decide +kernel
theorem dX3_part_1 : decode cX3_part 1 = .ok (.iload_n 1, 1) := by decide +kernel
theorem dX3_part_2 : decode cX3_part 2 = .ok (.invokevirtual 51, 3) := by decide +kernel
theorem dX3_part_5 : decode cX3_part 5 = .ok (.lstore_n 2, 1) := by decide +kernel
theorem dX3_part_6 : decode cX3_part 6 = .ok (.iconst 1, 1) := by decide +kernel
theorem dX3_part_7 : decode cX3_part 7 = .ok (.istore 4, 2) := by decide +kernel
theorem dX3_part_9 : decode cX3_part 9 = .ok (.iload 4, 2) := by decide +kernel
theorem dX3_part_11 : decode cX3_part 11 = .ok (.bipush 100, 2) := by decide +kernel
theorem dX3_part_13 : decode cX3_part 13 = .ok (.if_icmp .ge 29, 3) := by decide +kernel
theorem dX3_part_16 : decode cX3_part 16 = .ok (.aload_n 0, 1) := by decide +kernel
theorem dX3_part_17 : decode cX3_part 17 = .ok (.getfield 19, 3) := by decide +kernel
theorem dX3_part_20 : decode cX3_part 20 = .ok (.bipush 38, 2) := by decide +kernel
theorem dX3_part_22 : decode cX3_part 22 = .ok (.invokevirtual 47, 3) := by decide +kernel
theorem dX3_part_25 : decode cX3_part 25 = .ok (.ifCond .eq 17, 3) := by decide +kernel
theorem dX3_part_28 : decode cX3_part 28 = .ok (.lload_n 2, 1) := by decide +kernel
theorem dX3_part_29 : decode cX3_part 29 = .ok (.aload_n 0, 1) := by decide +kernel
theorem dX3_part_30 : decode cX3_part 30 = .ok (.iload_n 1, 1) := by decide +kernel
theorem dX3_part_31 : decode cX3_part 31 = .ok (.invokevirtual 51, 3) := by decide +kernel
theorem dX3_part_34 : decode cX3_part 34 = .ok (.land, 1) := by decide +kernel
theorem dX3_part_35 : decode cX3_part 35 = .ok (.lstore_n 2, 1) := by decide +kernel
theorem dX3_part_36 : decode cX3_part 36 = .ok (.iinc 4 1, 3) := by decide +kernel
theorem dX3_part_39 : decode cX3_part 39 = .ok (.goto (-30), 3) := by decide +kernel
theorem dX3_part_42 : decode cX3_part 42 = .ok (.lload_n 2, 1) := by decide +kernel
theorem dX3_part_43 : decode cX3_part 43 = .ok (.lreturn, 1) := by decide +kernel
theorem dX3_filter_0 : decode cX3_filter 0 = .ok (.aload_n 0, 1) := by decide +kernel
theorem dX3_filter_1 : decode cX3_filter 1 = .ok (.iload_n 1, 1) := by decide +kernel
theorem dX3_filter_2 : decode cX3_filter 2 = .ok (.invokevirtual 44, 3) := by decide +kernel
theorem dX3_filter_5 : decode cX3_filter 5 = .ok (.lstore_n 2, 1) := by decide +kernel
theorem dX3_filter_6 : decode cX3_filter 6 = .ok (.iconst 1, 1) := by decide +kernel
theorem dX3_filter_7 : decode cX3_filter 7 = .ok (.istore 4, 2) := by decide +kernel
theorem dX3_filter_9 : decode cX3_filter 9 = .ok (.iload 4, 2) := by decide +kernel
theorem dX3_filter_11 : decode cX3_filter 11 = .ok (.bipush 100, 2) := by decide +kernel
theorem dX3_filter_13 : decode cX3_filter 13 = .ok (.if_icmp .ge 29, 3) := by decide +kernel
theorem dX3_filter_16 : decode cX3_filter 16 = .ok (.aload_n 0, 1) := by decide +kernel
theorem dX3_filter_17 : decode cX3_filter 17 = .ok (.getfield 19, 3) := by decide +kernel
theorem dX3_filter_20 : decode cX3_filter 20 = .ok (.bipush 124, 2) := by decide +kernel
theorem dX3_filter_22 : decode cX3_filter 22 = .ok (.invokevirtual 47, 3) := by decide +kernel
theorem dX3_filter_25 : decode cX3_filter 25 = .ok (.ifCond .eq 17, 3) := by decide +kernel
theorem dX3_filter_28 : decode cX3_filter 28 = .ok (.lload_n 2, 1) := by decide +kernel
theorem dX3_filter_29 : decode cX3_filter 29 = .ok (.aload_n 0, 1) := by decide +kernel
theorem dX3_filter_30 : decode cX3_filter 30 = .ok (.iload_n 1, 1) := by decide +kernel
theorem dX3_filter_31 : decode cX3_filter 31 = .ok (.invokevirtual 44, 3) := by decide +kernel
theorem dX3_filter_34 : decode cX3_filter 34 = .ok (.lor, 1) := by decide +kernel
theorem dX3_filter_35 : decode cX3_filter 35 = .ok (.lstore_n 2, 1) := by decide +kernel
theorem dX3_filter_36 : decode cX3_filter 36 = .ok (.iinc 4 1, 3) := by decide +kernel
theorem dX3_filter_39 : decode cX3_filter 39 = .ok (.goto (-30), 3) := by decide +kernel
theorem dX3_filter_42 : decode cX3_filter 42 = .ok (.lload_n 2, 1) := by decide +kernel
theorem dX3_filter_43 : decode cX3_filter 43 = .ok (.lreturn, 1) := by decide +kernel
theorem dX3_apply_0 : decode cX3_apply 0 = .ok (.aload_n 0, 1) := by decide +kernel
theorem dX3_apply_1 : decode cX3_apply 1 = .ok (.getfield 15, 3) := by decide +kernel
theorem dX3_apply_4 : decode cX3_apply 4 = .ok (.invokevirtual 23, 3) := by decide +kernel
theorem dX3_apply_7 : decode cX3_apply 7 = .ok (.aload_n 0, 1) := by decide +kernel
theorem dX3_apply_8 : decode cX3_apply 8 = .ok (.getfield 19, 3) := by decide +kernel
theorem dX3_apply_11 : decode cX3_apply 11 = .ok (.invokevirtual 28, 3) := by decide +kernel
theorem dX3_apply_14 : decode cX3_apply 14 = .ok (.aload_n 0, 1) := by decide +kernel
theorem dX3_apply_15 : decode cX3_apply 15 = .ok (.iconst 0, 1) := by decide +kernel
theorem dX3_apply_16 : decode cX3_apply 16 = .ok (.invokevirtual 33, 3) := by decide +kernel
theorem dX3_apply_19 : decode cX3_apply 19 = .ok (.lstore_n 1, 1) := by decide +kernel
theorem dX3_apply_20 : decode cX3_apply 20 = .ok (.aload_n 0, 1) := by decide +kernel
theorem dX3_apply_21 : decode cX3_apply 21 = .ok (.getfield 19, 3) := by decide +kernel
theorem dX3_apply_24 : decode cX3_apply 24 = .ok (.invokevirtual 37, 3) := by decide +kernel
theorem dX3_apply_27 : decode cX3_apply 27 = .ok (.ifCond .ne 10, 3) := by decide +kernel
theorem dX3_apply_30 : decode cX3_apply 30 = .ok (.aload_n 0, 1) := by decide +kernel
theorem dX3_apply_31 : decode cX3_apply 31 = .ok (.getfield 19, 3) := by decide +kernel
theorem dX3_apply_34 : decode cX3_apply 34 = .ok (.invokevirtual 41, 3) := by decide +kernel
theorem dX3_apply_37 : decode cX3_apply 37 = .ok (.lload_n 1, 1) := by decide +kernel
theorem dX3_apply_38 : decode cX3_apply 38 = .ok (.lreturn, 1) := by decide +kernel
theorem wd_246 : (Jvm.Cond.methodLink "HeapBrowser$Commands" (3 : Nat) ({ cls := "java/lang/Object", name := "<init>", desc := "()V" } : Jvm.MethodName)) ∈ hb_wl := hb_w 246 (by decide +kernel) (by decide +kernel)
theorem lpX1_init_9 : hb_lkP yX1_init 9 1 3 := ⟨RX1, TX1, 8, rfl, by decide, rfl, Or.inr ⟨rfl, rfl, rfl, hb_w 250 (by decide +kernel) (by decide +kernel)⟩⟩
theorem lpX1_init_15 : hb_lkP yX1_init 15 1 4 := ⟨RX1, TX1, 8, rfl, by decide, rfl, Or.inr ⟨rfl, rfl, rfl, hb_w 251 (by decide +kernel) (by decide +kernel)⟩⟩
theorem lpX1_init_18 : hb_lkP yX1_init 18 1 5 := ⟨RX1, TX1, 8, rfl, by decide, rfl, Or.inr ⟨rfl, rfl, rfl, hb_w 252 (by decide +kernel) (by decide +kernel)⟩⟩
theorem lpX1_init_21 : hb_lkP yX1_init 21 1 6 := ⟨RX1, TX1, 8, rfl, by decide, rfl, Or.inr ⟨rfl, rfl, rfl, hb_w 253 (by decide +kernel) (by decide +kernel)⟩⟩
theorem lpX1_init_24 : hb_lkP yX1_init 24 1 0 := ⟨RX1, TX1, 8, rfl, by decide, rfl, Or.inr ⟨rfl, rfl, rfl, hb_w 247 (by decide +kernel) (by decide +kernel)⟩⟩
theorem lpX1_init_28 : hb_lkP yX1_init 28 1 1 := ⟨RX1, TX1, 8, rfl, by decide, rfl, Or.inr ⟨rfl, rfl, rfl, hb_w 248 (by decide +kernel) (by decide +kernel)⟩⟩
theorem lpX1_init_32 : hb_lkP yX1_init 32 1 2 := ⟨RX1, TX1, 8, rfl, by decide, rfl, Or.inr ⟨rfl, rfl, rfl, hb_w 249 (by decide +kernel) (by decide +kernel)⟩⟩
theorem lkX1_15 : hb_lkF RX1 15 1 4 := ⟨RX1, TX1, 8, rfl, by decide, rfl, Or.inl (hb_w 251 (by decide +kernel) (by decide +kernel))⟩
theorem lkX1_41 : hb_lkF RX1 41 1 7 := ⟨RX1, TX1, 8, rfl, by decide, rfl, Or.inl (hb_w 254 (by decide +kernel) (by decide +kernel))⟩
theorem lkX1_32 : hb_lkF RX1 32 1 2 := ⟨RX1, TX1, 8, rfl, by decide, rfl, Or.inl (hb_w 249 (by decide +kernel) (by decide +kernel))⟩
theorem lmX1_62 : Cond.methodLink RX1 62 yX7_number ∈ hb_wl := hb_w 682 (by decide +kernel) (by decide +kernel)
theorem lmX1_69 : Cond.methodLink RX1 69 yX7_expect ∈ hb_wl := hb_w 687 (by decide +kernel) (by decide +kernel)
theorem lkX1_18 : hb_lkF RX1 18 1 5 := ⟨RX1, TX1, 8, rfl, by decide, rfl, Or.inl (hb_w 252 (by decide +kernel) (by decide +kernel))⟩
theorem lkX1_9 : hb_lkF RX1 9 1 3 := ⟨RX1, TX1, 8, rfl, by decide, rfl, Or.inl (hb_w 250 (by decide +kernel) (by decide +kernel))⟩
theorem lmX1_58 : Cond.methodLink RX1 58 yX7_oneOf ∈ hb_wl := hb_w 681 (by decide +kernel) (by decide +kernel)
theorem lmX1_66 : Cond.methodLink RX1 66 yX1_readPair ∈ hb_wl := hb_w 683 (by decide +kernel) (by decide +kernel)
theorem lkX1_21 : hb_lkF RX1 21 1 6 := ⟨RX1, TX1, 8, rfl, by decide, rfl, Or.inl (hb_w 253 (by decide +kernel) (by decide +kernel))⟩
theorem lmX1_73 : Cond.methodLink RX1 73 yX7_skip ∈ hb_wl := hb_w 688 (by decide +kernel) (by decide +kernel)
theorem lkX1_45 : hb_lkF RX1 45 7 3 := ⟨RX7, TX7, 4, rfl, by decide, rfl, Or.inr (List.mem_of_getElem? (i := 31) (by decide +kernel))⟩
theorem lmX1_49 : Cond.methodLink RX1 49 yX7_atEnd ∈ hb_wl := hb_w 675 (by decide +kernel) (by decide +kernel)
theorem lmX1_53 : Cond.methodLink RX1 53 yX1_readOne ∈ hb_wl := hb_w 676 (by decide +kernel) (by decide +kernel)
theorem lpX1_read_41 : hb_lkP yX1_read 41 1 7 := ⟨RX1, TX1, 8, rfl, by decide, rfl, Or.inl ⟨rfl, Or.inl (hb_w 254 (by decide +kernel) (by decide +kernel))⟩⟩
theorem lmX1_36 : Cond.methodLink RX1 36 yX7_begin ∈ hb_wl := hb_w 674 (by decide +kernel) (by decide +kernel)
theorem lkX1_24 : hb_lkF RX1 24 1 0 := ⟨RX1, TX1, 8, rfl, by decide, rfl, Or.inl (hb_w 247 (by decide +kernel) (by decide +kernel))⟩
theorem lmX1_100 : Cond.methodLink RX1 100 yX4_problemOfRoot ∈ hb_wl := hb_w 721 (by decide +kernel) (by decide +kernel)
theorem lmX1_104 : Cond.methodLink RX1 104 yX4_problemOfUnrooting ∈ hb_wl := hb_w 728 (by decide +kernel) (by decide +kernel)
theorem lmX1_89 : Cond.methodLink RX1 89 yX4_problemOfArray ∈ hb_wl := hb_w 708 (by decide +kernel) (by decide +kernel)
theorem lmX1_84 : Cond.methodLink RX1 84 yX4_problemOfInstance ∈ hb_wl := hb_w 698 (by decide +kernel) (by decide +kernel)
theorem lmX1_96 : Cond.methodLink RX1 96 yX4_problemOfTarget ∈ hb_wl := hb_w 713 (by decide +kernel) (by decide +kernel)
theorem lmX1_92 : Cond.methodLink RX1 92 yX4_problemOfHolder ∈ hb_wl := hb_w 712 (by decide +kernel) (by decide +kernel)
theorem lkX1_119 : hb_lkF RX1 119 4 9 := ⟨RX4, TX4, 13, rfl, by decide, rfl, Or.inr (List.mem_of_getElem? (i := 7) (by decide +kernel))⟩
theorem lmX1_122 : Cond.methodLink RX1 122 yX4_putRoots ∈ hb_wl := hb_w 771 (by decide +kernel) (by decide +kernel)
theorem lmX1_110 : Cond.methodLink RX1 110 yX4_addArray ∈ hb_wl := hb_w 756 (by decide +kernel) (by decide +kernel)
theorem lmX1_107 : Cond.methodLink RX1 107 yX4_addInstance ∈ hb_wl := hb_w 737 (by decide +kernel) (by decide +kernel)
theorem lmX1_116 : Cond.methodLink RX1 116 yX4_putTarget ∈ hb_wl := hb_w 767 (by decide +kernel) (by decide +kernel)
theorem lmX1_113 : Cond.methodLink RX1 113 yX4_addHolder ∈ hb_wl := hb_w 763 (by decide +kernel) (by decide +kernel)
theorem lkX1_28 : hb_lkF RX1 28 1 1 := ⟨RX1, TX1, 8, rfl, by decide, rfl, Or.inl (hb_w 248 (by decide +kernel) (by decide +kernel))⟩
theorem lmX1_125 : Cond.methodLink RX1 125 yX0_removeGarbage ∈ hb_wl := hb_w 775 (by decide +kernel) (by decide +kernel)
theorem lmX1_77 : Cond.methodLink RX1 77 yX1_problemOfCommand ∈ hb_wl := hb_w 694 (by decide +kernel) (by decide +kernel)
theorem lmX1_80 : Cond.methodLink RX1 80 yX1_runOne ∈ hb_wl := hb_w 733 (by decide +kernel) (by decide +kernel)
theorem wd_230 : (Jvm.Cond.methodLink "HeapBrowser$Filter" (3 : Nat) ({ cls := "java/lang/Object", name := "<init>", desc := "()V" } : Jvm.MethodName)) ∈ hb_wl := hb_w 230 (by decide +kernel) (by decide +kernel)
theorem lpX3_init_9 : hb_lkP yX3_init 9 3 0 := ⟨RX3, TX3, 3, rfl, by decide, rfl, Or.inr ⟨rfl, rfl, rfl, hb_w 231 (by decide +kernel) (by decide +kernel)⟩⟩
theorem lpX3_init_15 : hb_lkP yX3_init 15 3 1 := ⟨RX3, TX3, 3, rfl, by decide, rfl, Or.inr ⟨rfl, rfl, rfl, hb_w 232 (by decide +kernel) (by decide +kernel)⟩⟩
theorem lpX3_init_19 : hb_lkP yX3_init 19 3 2 := ⟨RX3, TX3, 3, rfl, by decide, rfl, Or.inr ⟨rfl, rfl, rfl, hb_w 233 (by decide +kernel) (by decide +kernel)⟩⟩
theorem lkX3_19 : hb_lkF RX3 19 3 2 := ⟨RX3, TX3, 3, rfl, by decide, rfl, Or.inl (hb_w 233 (by decide +kernel) (by decide +kernel))⟩
theorem lmX3_47 : Cond.methodLink RX3 47 yX7_skip ∈ hb_wl := hb_w 494 (by decide +kernel) (by decide +kernel)
theorem lkX3_9 : hb_lkF RX3 9 3 0 := ⟨RX3, TX3, 3, rfl, by decide, rfl, Or.inl (hb_w 231 (by decide +kernel) (by decide +kernel))⟩
theorem lmX3_82 : Cond.methodLink RX3 82 yX4_hasClass ∈ hb_wl := hb_w 520 (by decide +kernel) (by decide +kernel)
theorem lmX3_86 : Cond.methodLink RX3 86 yX4_membersOf ∈ hb_wl := hb_w 524 (by decide +kernel) (by decide +kernel)
theorem lkX3_138 : hb_lkF RX3 138 4 8 := ⟨RX4, TX4, 13, rfl, by decide, rfl, Or.inr (List.mem_of_getElem? (i := 6) (by decide +kernel))⟩
theorem lkX3_15 : hb_lkF RX3 15 3 1 := ⟨RX3, TX3, 3, rfl, by decide, rfl, Or.inl (hb_w 232 (by decide +kernel) (by decide +kernel))⟩
theorem lkX3_123 : hb_lkF RX3 123 0 1 := ⟨RX0, TX0, 13, rfl, by decide, rfl, Or.inr (List.mem_of_getElem? (i := 16) (by decide +kernel))⟩
theorem lkX3_127 : hb_lkF RX3 127 6 1 := ⟨RX6, TX6, 5, rfl, by decide, rfl, Or.inr (List.mem_of_getElem? (i := 11) (by decide +kernel))⟩
theorem lkX3_132 : hb_lkF RX3 132 0 7 := ⟨RX0, TX0, 13, rfl, by decide, rfl, Or.inr (List.mem_of_getElem? (i := 22) (by decide +kernel))⟩
theorem lkX3_135 : hb_lkF RX3 135 0 8 := ⟨RX0, TX0, 13, rfl, by decide, rfl, Or.inr (List.mem_of_getElem? (i := 24) (by decide +kernel))⟩
theorem lkX3_120 : hb_lkF RX3 120 0 6 := ⟨RX0, TX0, 13, rfl, by decide, rfl, Or.inr (List.mem_of_getElem? (i := 20) (by decide +kernel))⟩
theorem lkX3_116 : hb_lkF RX3 116 4 6 := ⟨RX4, TX4, 13, rfl, by decide, rfl, Or.inr (List.mem_of_getElem? (i := 4) (by decide +kernel))⟩
theorem lkX3_141 : hb_lkF RX3 141 4 4 := ⟨RX4, TX4, 13, rfl, by decide, rfl, Or.inr (List.mem_of_getElem? (i := 2) (by decide +kernel))⟩
theorem lnX3_113 : Cond.methodLinkNest RX3 113 yX8_member "HeapBrowser" ∈ hb_nw := List.mem_of_getElem? (i := 43) (by decide +kernel)
theorem lkX3_98 : hb_lkF RX3 98 7 3 := ⟨RX7, TX7, 4, rfl, by decide, rfl, Or.inr (List.mem_of_getElem? (i := 32) (by decide +kernel))⟩
theorem lmX3_102 : Cond.methodLink RX3 102 yX4_hasObject ∈ hb_wl := hb_w 626 (by decide +kernel) (by decide +kernel)
theorem lmX3_105 : Cond.methodLink RX3 105 yX3_valueOf ∈ hb_wl := hb_w 627 (by decide +kernel) (by decide +kernel)
theorem lmX3_109 : Cond.methodLink RX3 109 yX3_isSo ∈ hb_wl := hb_w 631 (by decide +kernel) (by decide +kernel)
theorem lmX3_92 : Cond.methodLink RX3 92 yX7_oneOf ∈ hb_wl := hb_w 537 (by decide +kernel) (by decide +kernel)
theorem lmX3_67 : Cond.methodLink RX3 67 yX7_number ∈ hb_wl := hb_w 512 (by decide +kernel) (by decide +kernel)
theorem lmX3_77 : Cond.methodLink RX3 77 yX4_allObjects ∈ hb_wl := hb_w 635 (by decide +kernel) (by decide +kernel)
theorem wd_636 : (Jvm.Cond.constantLong "HeapBrowser$Filter" (80 : Nat) (-1 : Int64)) ∈ hb_wl := hb_w 636 (by decide +kernel) (by decide +kernel)
theorem lmX3_74 : Cond.methodLink RX3 74 yX3_relation ∈ hb_wl := hb_w 532 (by decide +kernel) (by decide +kernel)
theorem lmX3_71 : Cond.methodLink RX3 71 yX3_instancesOf ∈ hb_wl := hb_w 516 (by decide +kernel) (by decide +kernel)
theorem lmX3_61 : Cond.methodLink RX3 61 yX4_allRoots ∈ hb_wl := hb_w 511 (by decide +kernel) (by decide +kernel)
theorem lmX3_54 : Cond.methodLink RX3 54 yX3_negated ∈ hb_wl := hb_w 490 (by decide +kernel) (by decide +kernel)
theorem lmX3_33 : Cond.methodLink RX3 33 yX3_filter ∈ hb_wl := hb_w 478 (by decide +kernel) (by decide +kernel)
theorem lmX3_57 : Cond.methodLink RX3 57 yX7_expect ∈ hb_wl := hb_w 502 (by decide +kernel) (by decide +kernel)
theorem lmX3_51 : Cond.methodLink RX3 51 yX3_unit ∈ hb_wl := hb_w 486 (by decide +kernel) (by decide +kernel)
theorem lmX3_44 : Cond.methodLink RX3 44 yX3_part ∈ hb_wl := hb_w 482 (by decide +kernel) (by decide +kernel)
theorem lmX3_23 : Cond.methodLink RX3 23 yX0_refresh ∈ hb_wl := hb_w 473 (by decide +kernel) (by decide +kernel)
theorem lmX3_28 : Cond.methodLink RX3 28 yX7_begin ∈ hb_wl := hb_w 474 (by decide +kernel) (by decide +kernel)
theorem lmX3_37 : Cond.methodLink RX3 37 yX7_atEnd ∈ hb_wl := hb_w 637 (by decide +kernel) (by decide +kernel)
theorem lmX3_41 : Cond.methodLink RX3 41 yX7_fail ∈ hb_wl := hb_w 641 (by decide +kernel) (by decide +kernel)
