/-! rows that several methods need -/
theorem hb_oi1 : Cond.instanceMethod Lib.objectInit ∈ hb_wl := hb_w 35 (by decide +kernel) (by decide +kernel)
theorem hb_oi2 : Cond.code Lib.objectInit ⟨#[0xb1]⟩ 1 none ∈ hb_wl := hb_w 36 (by decide +kernel) (by decide +kernel)
theorem hb_ac1 : Cond.native arraycopyName ∈ hb_wl := hb_w 334 (by decide +kernel) (by decide +kernel)
theorem hb_ac2 : Cond.static arraycopyName ∈ hb_wl := hb_w 333 (by decide +kernel) (by decide +kernel)
theorem hb_ac3 : Cond.initialized "java/lang/System" ∈ hb_wl := hb_w 18 (by decide +kernel) (by decide +kernel)
theorem hb_zn {v : Int32} (h : v = 0 ∨ v = 1) : narrow .boolean (.int v) = .int v := by rcases h with h | h <;> (subst h; decide)
theorem hb_m0 : Cond.initialized "java/lang/Math" ∈ hb_wl := hb_w 21 (by decide +kernel) (by decide +kernel)
theorem hb_mmin1 : Cond.static Lib.Math.min.name ∈ hb_wl := hb_w 437 (by decide +kernel) (by decide +kernel)
theorem hb_mmin2 : Cond.code Lib.Math.min.name Lib.Math.min.code 2 (some .int) ∈ hb_wl := hb_w 438 (by decide +kernel) (by decide +kernel)
theorem hb_mmax1 : Cond.static Lib.Math.max.name ∈ hb_wl := hb_w 570 (by decide +kernel) (by decide +kernel)
theorem hb_mmax2 : Cond.code Lib.Math.max.name Lib.Math.max.code 2 (some .int) ∈ hb_wl := hb_w 571 (by decide +kernel) (by decide +kernel)
theorem dJ7_fill_53178_0 : decode cJ7_fill_53178 0 = .ok (.iconst 0, 1) := by decide +kernel
theorem dJ7_fill_53178_1 : decode cJ7_fill_53178 1 = .ok (.istore_n 2, 1) := by decide +kernel
theorem dJ7_fill_53178_2 : decode cJ7_fill_53178 2 = .ok (.aload_n 0, 1) := by decide +kernel
theorem dJ7_fill_53178_3 : decode cJ7_fill_53178 3 = .ok (.arraylength, 1) := by decide +kernel
theorem dJ7_fill_53178_4 : decode cJ7_fill_53178 4 = .ok (.istore_n 3, 1) := by decide +kernel
theorem dJ7_fill_53178_5 : decode cJ7_fill_53178 5 = .ok (.iload_n 2, 1) := by decide +kernel
theorem dJ7_fill_53178_6 : decode cJ7_fill_53178 6 = .ok (.iload_n 3, 1) := by decide +kernel
theorem dJ7_fill_53178_7 : decode cJ7_fill_53178 7 = .ok (.if_icmp .ge 13, 3) := by decide +kernel
theorem dJ7_fill_53178_10 : decode cJ7_fill_53178 10 = .ok (.aload_n 0, 1) := by decide +kernel
theorem dJ7_fill_53178_11 : decode cJ7_fill_53178 11 = .ok (.iload_n 2, 1) := by decide +kernel
theorem dJ7_fill_53178_12 : decode cJ7_fill_53178 12 = .ok (.iload_n 1, 1) := by decide +kernel
theorem dJ7_fill_53178_13 : decode cJ7_fill_53178 13 = .ok (.iastore, 1) := by decide +kernel
theorem dJ7_fill_53178_14 : decode cJ7_fill_53178 14 = .ok (.iinc 2 1, 3) := by decide +kernel
theorem dJ7_fill_53178_17 : decode cJ7_fill_53178 17 = .ok (.goto (-12), 3) := by decide +kernel
theorem dJ7_fill_53178_20 : decode cJ7_fill_53178 20 = .ok (.return_, 1) := by decide +kernel
theorem dX4_init_0 : decode cX4_init 0 = .ok (.aload_n 0, 1) := by decide +kernel
theorem dX4_init_1 : decode cX4_init 1 = .ok (.invokespecial 3, 3) := by decide +kernel
theorem dX4_init_4 : decode cX4_init 4 = .ok (.aload_n 0, 1) := by decide +kernel
theorem dX4_init_5 : decode cX4_init 5 = .ok (.bipush 10, 2) := by decide +kernel
theorem dX4_init_7 : decode cX4_init 7 = .ok (.newarray .int, 2) := by decide +kernel
theorem dX4_init_9 : decode cX4_init 9 = .ok (.putfield 9, 3) := by decide +kernel
theorem dX4_init_12 : decode cX4_init 12 = .ok (.aload_n 0, 1) := by decide +kernel
theorem dX4_init_13 : decode cX4_init 13 = .ok (.bipush 10, 2) := by decide +kernel
theorem dX4_init_15 : decode cX4_init 15 = .ok (.newarray .int, 2) := by decide +kernel
theorem dX4_init_17 : decode cX4_init 17 = .ok (.putfield 15, 3) := by decide +kernel
theorem dX4_init_20 : decode cX4_init 20 = .ok (.aload_n 0, 1) := by decide +kernel
theorem dX4_init_21 : decode cX4_init 21 = .ok (.bipush 10, 2) := by decide +kernel
theorem dX4_init_23 : decode cX4_init 23 = .ok (.newarray .int, 2) := by decide +kernel
theorem dX4_init_25 : decode cX4_init 25 = .ok (.putfield 18, 3) := by decide +kernel
theorem dX4_init_28 : decode cX4_init 28 = .ok (.aload_n 0, 1) := by decide +kernel
theorem dX4_init_29 : decode cX4_init 29 = .ok (.bipush 40, 2) := by decide +kernel
theorem dX4_init_31 : decode cX4_init 31 = .ok (.newarray .int, 2) := by decide +kernel
theorem dX4_init_33 : decode cX4_init 33 = .ok (.putfield 21, 3) := by decide +kernel
theorem dX4_init_36 : decode cX4_init 36 = .ok (.aload_n 0, 1) := by decide +kernel
theorem dX4_init_37 : decode cX4_init 37 = .ok (.bipush 40, 2) := by decide +kernel
theorem dX4_init_39 : decode cX4_init 39 = .ok (.newarray .int, 2) := by decide +kernel
theorem dX4_init_41 : decode cX4_init 41 = .ok (.putfield 24, 3) := by decide +kernel
theorem dX4_init_44 : decode cX4_init 44 = .ok (.aload_n 0, 1) := by decide +kernel
theorem dX4_init_45 : decode cX4_init 45 = .ok (.bipush 40, 2) := by decide +kernel
theorem dX4_init_47 : decode cX4_init 47 = .ok (.newarray .int, 2) := by decide +kernel
theorem dX4_init_49 : decode cX4_init 49 = .ok (.putfield 27, 3) := by decide +kernel
theorem dX4_init_52 : decode cX4_init 52 = .ok (.aload_n 0, 1) := by decide +kernel
theorem dX4_init_53 : decode cX4_init 53 = .ok (.bipush 40, 2) := by decide +kernel
theorem dX4_init_55 : decode cX4_init 55 = .ok (.newarray .int, 2) := by decide +kernel
theorem dX4_init_57 : decode cX4_init 57 = .ok (.putfield 30, 3) := by decide +kernel
theorem dX4_init_60 : decode cX4_init 60 = .ok (.aload_n 0, 1) := by decide +kernel
theorem dX4_init_61 : decode cX4_init 61 = .ok (.bipush 40, 2) := by decide +kernel
theorem dX4_init_63 : decode cX4_init 63 = .ok (.newarray .int, 2) := by decide +kernel
theorem dX4_init_65 : decode cX4_init 65 = .ok (.putfield 33, 3) := by decide +kernel
theorem dX4_init_68 : decode cX4_init 68 = .ok (.aload_n 0, 1) := by decide +kernel
theorem dX4_init_69 : decode cX4_init 69 = .ok (.bipush 40, 2) := by decide +kernel
theorem dX4_init_71 : decode cX4_init 71 = .ok (.newarray .int, 2) := by decide +kernel
theorem dX4_init_73 : decode cX4_init 73 = .ok (.putfield 36, 3) := by decide +kernel
theorem dX4_init_76 : decode cX4_init 76 = .ok (.aload_n 0, 1) := by decide +kernel
theorem dX4_init_77 : decode cX4_init 77 = .ok (.sipush 320, 3) := by decide +kernel
theorem dX4_init_80 : decode cX4_init 80 = .ok (.newarray .int, 2) := by decide +kernel
theorem dX4_init_82 : decode cX4_init 82 = .ok (.putfield 39, 3) := by decide +kernel
theorem dX4_init_85 : decode cX4_init 85 = .ok (.aload_n 0, 1) := by decide +kernel
theorem dX4_init_86 : decode cX4_init 86 = .ok (.iconst 1, 1) := by decide +kernel
theorem dX4_init_87 : decode cX4_init 87 = .ok (.putfield 42, 3) := by decide +kernel
theorem dX4_init_90 : decode cX4_init 90 = .ok (.aload_n 0, 1) := by decide +kernel
theorem dX4_init_91 : decode cX4_init 91 = .ok (.getfield 9, 3) := by decide +kernel
theorem dX4_init_94 : decode cX4_init 94 = .ok (.iconst 0, 1) := by decide +kernel
theorem dX4_init_95 : decode cX4_init 95 = .ok (.iconst (-1), 1) := by decide +kernel
theorem dX4_init_96 : decode cX4_init 96 = .ok (.iastore, 1) := by decide +kernel
theorem dX4_init_97 : decode cX4_init 97 = .ok (.aload_n 0, 1) := by decide +kernel
theorem dX4_init_98 : decode cX4_init 98 = .ok (.getfield 21, 3) := by decide +kernel
theorem dX4_init_101 : decode cX4_init 101 = .ok (.iconst (-1), 1) := by decide +kernel
theorem dX4_init_102 : decode cX4_init 102 = .ok (.invokestatic 46, 3) := by decide +kernel
theorem dX4_init_105 : decode cX4_init 105 = .ok (.aload_n 0, 1) := by decide +kernel
theorem dX4_init_106 : decode cX4_init 106 = .ok (.getfield 39, 3) := by decide +kernel
theorem dX4_init_109 : decode cX4_init 109 = .ok (.iconst (-1), 1) := by decide +kernel
theorem dX4_init_110 : decode cX4_init 110 = .ok (.invokestatic 46, 3) := by decide +kernel
theorem dX4_init_113 : decode cX4_init 113 = .ok (.aload_n 0, 1) := by decide +kernel
theorem dX4_init_114 : decode cX4_init 114 = .ok (.iconst 1, 1) := by decide +kernel
theorem dX4_init_115 : decode cX4_init 115 = .ok (.putfield 52, 3) := by decide +kernel
theorem dX4_init_118 : decode cX4_init 118 = .ok (.return_, 1) := by decide +kernel
theorem dX4_copyFrom_0 : decode cX4_copyFrom 0 = .ok (.aload_n 0, 1) := by decide +kernel
theorem dX4_copyFrom_1 : decode cX4_copyFrom 1 = .ok (.aload_n 1, 1) := by decide +kernel
theorem dX4_copyFrom_2 : decode cX4_copyFrom 2 = .ok (.getfield 42, 3) := by decide +kernel
theorem dX4_copyFrom_5 : decode cX4_copyFrom 5 = .ok (.putfield 42, 3) := by decide +kernel
theorem dX4_copyFrom_8 : decode cX4_copyFrom 8 = .ok (.aload_n 1, 1) := by decide +kernel
theorem dX4_copyFrom_9 : decode cX4_copyFrom 9 = .ok (.getfield 9, 3) := by decide +kernel
theorem dX4_copyFrom_12 : decode cX4_copyFrom 12 = .ok (.iconst 0, 1) := by decide +kernel
theorem dX4_copyFrom_13 : decode cX4_copyFrom 13 = .ok (.aload_n 0, 1) := by decide +kernel
theorem dX4_copyFrom_14 : decode cX4_copyFrom 14 = .ok (.getfield 9, 3) := by decide +kernel
theorem dX4_copyFrom_17 : decode cX4_copyFrom 17 = .ok (.iconst 0, 1) := by decide +kernel
theorem dX4_copyFrom_18 : decode cX4_copyFrom 18 = .ok (.bipush 10, 2) := by decide +kernel
theorem dX4_copyFrom_20 : decode cX4_copyFrom 20 = .ok (.invokestatic 55, 3) := by decide +kernel
theorem dX4_copyFrom_23 : decode cX4_copyFrom 23 = .ok (.aload_n 1, 1) := by decide +kernel
theorem dX4_copyFrom_24 : decode cX4_copyFrom 24 = .ok (.getfield 15, 3) := by decide +kernel
theorem dX4_copyFrom_27 : decode cX4_copyFrom 27 = .ok (.iconst 0, 1) := by decide +kernel
theorem dX4_copyFrom_28 : decode cX4_copyFrom 28 = .ok (.aload_n 0, 1) := by decide +kernel
theorem dX4_copyFrom_29 : decode cX4_copyFrom 29 = .ok (.getfield 15, 3) := by decide +kernel
theorem dX4_copyFrom_32 : decode cX4_copyFrom 32 = .ok (.iconst 0, 1) := by decide +kernel
theorem dX4_copyFrom_33 : decode cX4_copyFrom 33 = .ok (.bipush 10, 2) := by decide +kernel
theorem dX4_copyFrom_35 : decode cX4_copyFrom 35 = .ok (.invokestatic 55, 3) := by decide +kernel
theorem dX4_copyFrom_38 : decode cX4_copyFrom 38 = .ok (.aload_n 1, 1) := by decide +kernel
theorem dX4_copyFrom_39 : decode cX4_copyFrom 39 = .ok (.getfield 18, 3) := by decide +kernel
theorem dX4_copyFrom_42 : decode cX4_copyFrom 42 = .ok (.iconst 0, 1) := by decide +kernel
theorem dX4_copyFrom_43 : decode cX4_copyFrom 43 = .ok (.aload_n 0, 1) := by decide +kernel
theorem dX4_copyFrom_44 : decode cX4_copyFrom 44 = .ok (.getfield 18, 3) := by decide +kernel
theorem dX4_copyFrom_47 : decode cX4_copyFrom 47 = .ok (.iconst 0, 1) := by decide +kernel
theorem dX4_copyFrom_48 : decode cX4_copyFrom 48 = .ok (.bipush 10, 2) := by decide +kernel
theorem dX4_copyFrom_50 : decode cX4_copyFrom 50 = .ok (.invokestatic 55, 3) := by decide +kernel
theorem dX4_copyFrom_53 : decode cX4_copyFrom 53 = .ok (.aload_n 1, 1) := by decide +kernel
theorem dX4_copyFrom_54 : decode cX4_copyFrom 54 = .ok (.getfield 21, 3) := by decide +kernel
theorem dX4_copyFrom_57 : decode cX4_copyFrom 57 = .ok (.iconst 0, 1) := by decide +kernel
theorem dX4_copyFrom_58 : decode cX4_copyFrom 58 = .ok (.aload_n 0, 1) := by decide +kernel
theorem dX4_copyFrom_59 : decode cX4_copyFrom 59 = .ok (.getfield 21, 3) := by decide +kernel
theorem dX4_copyFrom_62 : decode cX4_copyFrom 62 = .ok (.iconst 0, 1) := by decide +kernel
theorem dX4_copyFrom_63 : decode cX4_copyFrom 63 = .ok (.bipush 40, 2) := by decide +kernel
theorem dX4_copyFrom_65 : decode cX4_copyFrom 65 = .ok (.invokestatic 55, 3) := by decide +kernel
theorem dX4_copyFrom_68 : decode cX4_copyFrom 68 = .ok (.aload_n 1, 1) := by decide +kernel
theorem dX4_copyFrom_69 : decode cX4_copyFrom 69 = .ok (.getfield 24, 3) := by decide +kernel
theorem dX4_copyFrom_72 : decode cX4_copyFrom 72 = .ok (.iconst 0, 1) := by decide +kernel
theorem dX4_copyFrom_73 : decode cX4_copyFrom 73 = .ok (.aload_n 0, 1) := by decide +kernel
theorem dX4_copyFrom_74 : decode cX4_copyFrom 74 = .ok (.getfield 24, 3) := by decide +kernel
theorem dX4_copyFrom_77 : decode cX4_copyFrom 77 = .ok (.iconst 0, 1) := by decide +kernel
theorem dX4_copyFrom_78 : decode cX4_copyFrom 78 = .ok (.bipush 40, 2) := by decide +kernel
theorem dX4_copyFrom_80 : decode cX4_copyFrom 80 = .ok (.invokestatic 55, 3) := by decide +kernel
theorem dX4_copyFrom_83 : decode cX4_copyFrom 83 = .ok (.aload_n 1, 1) := by decide +kernel
theorem dX4_copyFrom_84 : decode cX4_copyFrom 84 = .ok (.getfield 27, 3) := by decide +kernel
theorem dX4_copyFrom_87 : decode cX4_copyFrom 87 = .ok (.iconst 0, 1) := by decide +kernel
theorem dX4_copyFrom_88 : decode cX4_copyFrom 88 = .ok (.aload_n 0, 1) := by decide +kernel
theorem dX4_copyFrom_89 : decode cX4_copyFrom 89 = .ok (.getfield 27, 3) := by decide +kernel
theorem dX4_copyFrom_92 : decode cX4_copyFrom 92 = .ok (.iconst 0, 1) := by decide +kernel
theorem dX4_copyFrom_93 : decode cX4_copyFrom 93 = .ok (.bipush 40, 2) := by decide +kernel
theorem dX4_copyFrom_95 : decode cX4_copyFrom 95 = .ok (.invokestatic 55, 3) := by decide +kernel
theorem dX4_copyFrom_98 : decode cX4_copyFrom 98 = .ok (.aload_n 1, 1) := by decide +kernel
theorem dX4_copyFrom_99 : decode cX4_copyFrom 99 = .ok (.getfield 30, 3) := by decide +kernel
theorem dX4_copyFrom_102 : decode cX4_copyFrom 102 = .ok (.iconst 0, 1) := by decide +kernel
theorem dX4_copyFrom_103 : decode cX4_copyFrom 103 = .ok (.aload_n 0, 1) := by decide +kernel
theorem dX4_copyFrom_104 : decode cX4_copyFrom 104 = .ok (.getfield 30, 3) := by decide +kernel
theorem dX4_copyFrom_107 : decode cX4_copyFrom 107 = .ok (.iconst 0, 1) := by decide +kernel
theorem dX4_copyFrom_108 : decode cX4_copyFrom 108 = .ok (.bipush 40, 2) := by decide +kernel
theorem dX4_copyFrom_110 : decode cX4_copyFrom 110 = .ok (.invokestatic 55, 3) := by decide +kernel
theorem dX4_copyFrom_113 : decode cX4_copyFrom 113 = .ok (.aload_n 1, 1) := by decide +kernel
theorem dX4_copyFrom_114 : decode cX4_copyFrom 114 = .ok (.getfield 33, 3) := by decide +kernel
theorem dX4_copyFrom_117 : decode cX4_copyFrom 117 = .ok (.iconst 0, 1) := by decide +kernel
theorem dX4_copyFrom_118 : decode cX4_copyFrom 118 = .ok (.aload_n 0, 1) := by decide +kernel
theorem dX4_copyFrom_119 : decode cX4_copyFrom 119 = .ok (.getfield 33, 3) := by decide +kernel
theorem dX4_copyFrom_122 : decode cX4_copyFrom 122 = .ok (.iconst 0, 1) := by decide +kernel
theorem dX4_copyFrom_123 : decode cX4_copyFrom 123 = .ok (.bipush 40, 2) := by decide +kernel
theorem dX4_copyFrom_125 : decode cX4_copyFrom 125 = .ok (.invokestatic 55, 3) := by decide +kernel
theorem dX4_copyFrom_128 : decode cX4_copyFrom 128 = .ok (.aload_n 1, 1) := by decide +kernel
theorem dX4_copyFrom_129 : decode cX4_copyFrom 129 = .ok (.getfield 36, 3) := by decide +kernel
theorem dX4_copyFrom_132 : decode cX4_copyFrom 132 = .ok (.iconst 0, 1) := by decide +kernel
theorem dX4_copyFrom_133 : decode cX4_copyFrom 133 = .ok (.aload_n 0, 1) := by decide +kernel
theorem dX4_copyFrom_134 : decode cX4_copyFrom 134 = .ok (.getfield 36, 3) := by decide +kernel
theorem dX4_copyFrom_137 : decode cX4_copyFrom 137 = .ok (.iconst 0, 1) := by decide +kernel
theorem dX4_copyFrom_138 : decode cX4_copyFrom 138 = .ok (.bipush 40, 2) := by decide +kernel
theorem dX4_copyFrom_140 : decode cX4_copyFrom 140 = .ok (.invokestatic 55, 3) := by decide +kernel
theorem dX4_copyFrom_143 : decode cX4_copyFrom 143 = .ok (.aload_n 1, 1) := by decide +kernel
theorem dX4_copyFrom_144 : decode cX4_copyFrom 144 = .ok (.getfield 39, 3) := by decide +kernel
theorem dX4_copyFrom_147 : decode cX4_copyFrom 147 = .ok (.iconst 0, 1) := by decide +kernel
theorem dX4_copyFrom_148 : decode cX4_copyFrom 148 = .ok (.aload_n 0, 1) := by decide +kernel
theorem dX4_copyFrom_149 : decode cX4_copyFrom 149 = .ok (.getfield 39, 3) := by decide +kernel
theorem dX4_copyFrom_152 : decode cX4_copyFrom 152 = .ok (.iconst 0, 1) := by decide +kernel
theorem dX4_copyFrom_153 : decode cX4_copyFrom 153 = .ok (.sipush 320, 3) := by decide +kernel
theorem dX4_copyFrom_156 : decode cX4_copyFrom 156 = .ok (.invokestatic 55, 3) := by decide +kernel
theorem dX4_copyFrom_159 : decode cX4_copyFrom 159 = .ok (.aload_n 0, 1) := by decide +kernel
theorem dX4_copyFrom_160 : decode cX4_copyFrom 160 = .ok (.aload_n 1, 1) := by decide +kernel
theorem dX4_copyFrom_161 : decode cX4_copyFrom 161 = .ok (.getfield 52, 3) := by decide +kernel
theorem dX4_copyFrom_164 : decode cX4_copyFrom 164 = .ok (.putfield 52, 3) := by decide +kernel
theorem dX4_copyFrom_167 : decode cX4_copyFrom 167 = .ok (.aload_n 0, 1) := by decide +kernel
theorem dX4_copyFrom_168 : decode cX4_copyFrom 168 = .ok (.dup, 1) := by decide +kernel
theorem dX4_copyFrom_169 : decode cX4_copyFrom 169 = .ok (.getfield 61, 3) := by decide +kernel
theorem dX4_copyFrom_172 : decode cX4_copyFrom 172 = .ok (.iconst 1, 1) := by decide +kernel
theorem dX4_copyFrom_173 : decode cX4_copyFrom 173 = .ok (.iadd, 1) := by decide +kernel
theorem dX4_copyFrom_174 : decode cX4_copyFrom 174 = .ok (.putfield 61, 3) := by decide +kernel
theorem dX4_copyFrom_177 : decode cX4_copyFrom 177 = .ok (.return_, 1) := by decide +kernel
theorem dX4_hasClass_0 : decode cX4_hasClass 0 = .ok (.iload_n 1, 1) := by decide +kernel
theorem dX4_hasClass_1 : decode cX4_hasClass 1 = .ok (.ifCond .lt 15, 3) := by decide +kernel
theorem dX4_hasClass_4 : decode cX4_hasClass 4 = .ok (.iload_n 1, 1) := by decide +kernel
theorem dX4_hasClass_5 : decode cX4_hasClass 5 = .ok (.aload_n 0, 1) := by decide +kernel
theorem dX4_hasClass_6 : decode cX4_hasClass 6 = .ok (.getfield 42, 3) := by decide +kernel
theorem dX4_hasClass_9 : decode cX4_hasClass 9 = .ok (.if_icmp .ge 7, 3) := by decide +kernel
theorem dX4_hasClass_12 : decode cX4_hasClass 12 = .ok (.iconst 1, 1) := by decide +kernel
theorem dX4_hasClass_13 : decode cX4_hasClass 13 = .ok (.goto 4, 3) := by decide +kernel
theorem dX4_hasClass_16 : decode cX4_hasClass 16 = .ok (.iconst 0, 1) := by decide +kernel
theorem dX4_hasClass_17 : decode cX4_hasClass 17 = .ok (.ireturn, 1) := by decide +kernel
theorem dX4_hasGroup_0 : decode cX4_hasGroup 0 = .ok (.aload_n 0, 1) := by decide +kernel
theorem dX4_hasGroup_1 : decode cX4_hasGroup 1 = .ok (.iload_n 1, 1) := by decide +kernel
theorem dX4_hasGroup_2 : decode cX4_hasGroup 2 = .ok (.invokevirtual 64, 3) := by decide +kernel
theorem dX4_hasGroup_5 : decode cX4_hasGroup 5 = .ok (.ifCond .ne 15, 3) := by decide +kernel
theorem dX4_hasGroup_8 : decode cX4_hasGroup 8 = .ok (.iload_n 1, 1) := by decide +kernel
theorem dX4_hasGroup_9 : decode cX4_hasGroup 9 = .ok (.bipush 10, 2) := by decide +kernel
theorem dX4_hasGroup_11 : decode cX4_hasGroup 11 = .ok (.if_icmp .eq 9, 3) := by decide +kernel
theorem dX4_hasGroup_14 : decode cX4_hasGroup 14 = .ok (.iload_n 1, 1) := by decide +kernel
theorem dX4_hasGroup_15 : decode cX4_hasGroup 15 = .ok (.bipush 11, 2) := by decide +kernel
theorem dX4_hasGroup_17 : decode cX4_hasGroup 17 = .ok (.if_icmp .ne 7, 3) := by decide +kernel
theorem dX4_hasGroup_20 : decode cX4_hasGroup 20 = .ok (.iconst 1, 1) := by decide +kernel
theorem dX4_hasGroup_21 : decode cX4_hasGroup 21 = .ok (.goto 4, 3) := by decide +kernel
theorem dX4_hasGroup_24 : decode cX4_hasGroup 24 = .ok (.iconst 0, 1) := by decide +kernel
theorem dX4_hasGroup_25 : decode cX4_hasGroup 25 = .ok (.ireturn, 1) := by decide +kernel
theorem dX4_hasObject_0 : decode cX4_hasObject 0 = .ok (.iload_n 1, 1) := by decide +kernel
theorem dX4_hasObject_1 : decode cX4_hasObject 1 = .ok (.ifCond .lt 23, 3) := by decide +kernel
theorem dX4_hasObject_4 : decode cX4_hasObject 4 = .ok (.iload_n 1, 1) := by decide +kernel
theorem dX4_hasObject_5 : decode cX4_hasObject 5 = .ok (.bipush 40, 2) := by decide +kernel
theorem dX4_hasObject_7 : decode cX4_hasObject 7 = .ok (.if_icmp .ge 17, 3) := by decide +kernel
theorem dX4_hasObject_10 : decode cX4_hasObject 10 = .ok (.aload_n 0, 1) := by decide +kernel
theorem dX4_hasObject_11 : decode cX4_hasObject 11 = .ok (.getfield 21, 3) := by decide +kernel
theorem dX4_hasObject_14 : decode cX4_hasObject 14 = .ok (.iload_n 1, 1) := by decide +kernel
theorem dX4_hasObject_15 : decode cX4_hasObject 15 = .ok (.iaload, 1) := by decide +kernel
theorem dX4_hasObject_16 : decode cX4_hasObject 16 = .ok (.iconst (-1), 1) := by decide +kernel
theorem dX4_hasObject_17 : decode cX4_hasObject 17 = .ok (.if_icmp .eq 7, 3) := by decide +kernel
theorem dX4_hasObject_20 : decode cX4_hasObject 20 = .ok (.iconst 1, 1) := by decide +kernel
theorem dX4_hasObject_21 : decode cX4_hasObject 21 = .ok (.goto 4, 3) := by decide +kernel
theorem dX4_hasObject_24 : decode cX4_hasObject 24 = .ok (.iconst 0, 1) := by decide +kernel
theorem dX4_hasObject_25 : decode cX4_hasObject 25 = .ok (.ireturn, 1) := by decide +kernel
theorem dX4_hasSlot_0 : decode cX4_hasSlot 0 = .ok (.aload_n 0, 1) := by decide +kernel
theorem dX4_hasSlot_1 : decode cX4_hasSlot 1 = .ok (.iload_n 1, 1) := by decide +kernel
theorem dX4_hasSlot_2 : decode cX4_hasSlot 2 = .ok (.invokevirtual 68, 3) := by decide +kernel
theorem dX4_hasSlot_5 : decode cX4_hasSlot 5 = .ok (.ifCond .eq 21, 3) := by decide +kernel
theorem dX4_hasSlot_8 : decode cX4_hasSlot 8 = .ok (.iload_n 2, 1) := by decide +kernel
theorem dX4_hasSlot_9 : decode cX4_hasSlot 9 = .ok (.ifCond .lt 17, 3) := by decide +kernel
theorem dX4_hasSlot_12 : decode cX4_hasSlot 12 = .ok (.iload_n 2, 1) := by decide +kernel
theorem dX4_hasSlot_13 : decode cX4_hasSlot 13 = .ok (.aload_n 0, 1) := by decide +kernel
theorem dX4_hasSlot_14 : decode cX4_hasSlot 14 = .ok (.getfield 30, 3) := by decide +kernel
theorem dX4_hasSlot_17 : decode cX4_hasSlot 17 = .ok (.iload_n 1, 1) := by decide +kernel
theorem dX4_hasSlot_18 : decode cX4_hasSlot 18 = .ok (.iaload, 1) := by decide +kernel
theorem dX4_hasSlot_19 : decode cX4_hasSlot 19 = .ok (.if_icmp .ge 7, 3) := by decide +kernel
theorem dX4_hasSlot_22 : decode cX4_hasSlot 22 = .ok (.iconst 1, 1) := by decide +kernel
theorem dX4_hasSlot_23 : decode cX4_hasSlot 23 = .ok (.goto 4, 3) := by decide +kernel
theorem dX4_hasSlot_26 : decode cX4_hasSlot 26 = .ok (.iconst 0, 1) := by decide +kernel
theorem dX4_hasSlot_27 : decode cX4_hasSlot 27 = .ok (.ireturn, 1) := by decide +kernel
theorem dX4_problemOfClass_0 : decode cX4_problemOfClass 0 = .ok (.aload_n 0, 1) := by decide +kernel
theorem dX4_problemOfClass_1 : decode cX4_problemOfClass 1 = .ok (.iload_n 1, 1) := by decide +kernel
theorem dX4_problemOfClass_2 : decode cX4_problemOfClass 2 = .ok (.invokevirtual 64, 3) := by decide +kernel
theorem dX4_problemOfClass_5 : decode cX4_problemOfClass 5 = .ok (.ifCond .ne 5, 3) := by decide +kernel
theorem dX4_problemOfClass_8 : decode cX4_problemOfClass 8 = .ok (.iconst 1, 1) := by decide +kernel
theorem dX4_problemOfClass_9 : decode cX4_problemOfClass 9 = .ok (.ireturn, 1) := by decide +kernel
theorem dX4_problemOfClass_10 : decode cX4_problemOfClass 10 = .ok (.iload_n 2, 1) := by decide +kernel
theorem dX4_problemOfClass_11 : decode cX4_problemOfClass 11 = .ok (.ifCond .lt 22, 3) := by decide +kernel
theorem dX4_problemOfClass_14 : decode cX4_problemOfClass 14 = .ok (.iload_n 2, 1) := by decide +kernel
theorem dX4_problemOfClass_15 : decode cX4_problemOfClass 15 = .ok (.iconst 3, 1) := by decide +kernel
theorem dX4_problemOfClass_16 : decode cX4_problemOfClass 16 = .ok (.if_icmp .gt 17, 3) := by decide +kernel
theorem dX4_problemOfClass_19 : decode cX4_problemOfClass 19 = .ok (.iload_n 3, 1) := by decide +kernel
theorem dX4_problemOfClass_20 : decode cX4_problemOfClass 20 = .ok (.ifCond .lt 13, 3) := by decide +kernel
theorem dX4_problemOfClass_23 : decode cX4_problemOfClass 23 = .ok (.iload_n 3, 1) := by decide +kernel
theorem dX4_problemOfClass_24 : decode cX4_problemOfClass 24 = .ok (.bipush 40, 2) := by decide +kernel
theorem dX4_problemOfClass_26 : decode cX4_problemOfClass 26 = .ok (.if_icmp .gt 7, 3) := by decide +kernel
theorem dX4_problemOfClass_29 : decode cX4_problemOfClass 29 = .ok (.iconst 1, 1) := by decide +kernel
theorem dX4_problemOfClass_30 : decode cX4_problemOfClass 30 = .ok (.goto 4, 3) := by decide +kernel
theorem dX4_problemOfClass_33 : decode cX4_problemOfClass 33 = .ok (.iconst 0, 1) := by decide +kernel
theorem dX4_problemOfClass_34 : decode cX4_problemOfClass 34 = .ok (.istore 4, 2) := by decide +kernel
theorem dX4_problemOfClass_36 : decode cX4_problemOfClass 36 = .ok (.iload 4, 2) := by decide +kernel
theorem dX4_problemOfClass_38 : decode cX4_problemOfClass 38 = .ok (.ifCond .eq 15, 3) := by decide +kernel
theorem dX4_problemOfClass_41 : decode cX4_problemOfClass 41 = .ok (.aload_n 0, 1) := by decide +kernel
theorem dX4_problemOfClass_42 : decode cX4_problemOfClass 42 = .ok (.getfield 15, 3) := by decide +kernel
theorem dX4_problemOfClass_45 : decode cX4_problemOfClass 45 = .ok (.iload_n 1, 1) := by decide +kernel
theorem dX4_problemOfClass_46 : decode cX4_problemOfClass 46 = .ok (.iaload, 1) := by decide +kernel
theorem dX4_problemOfClass_47 : decode cX4_problemOfClass 47 = .ok (.iload_n 2, 1) := by decide +kernel
theorem dX4_problemOfClass_48 : decode cX4_problemOfClass 48 = .ok (.iadd, 1) := by decide +kernel
theorem dX4_problemOfClass_49 : decode cX4_problemOfClass 49 = .ok (.iconst 5, 1) := by decide +kernel
theorem dX4_problemOfClass_50 : decode cX4_problemOfClass 50 = .ok (.if_icmp .le 5, 3) := by decide +kernel
theorem dX4_problemOfClass_53 : decode cX4_problemOfClass 53 = .ok (.iconst 2, 1) := by decide +kernel
theorem dX4_problemOfClass_54 : decode cX4_problemOfClass 54 = .ok (.ireturn, 1) := by decide +kernel
theorem dX4_problemOfClass_55 : decode cX4_problemOfClass 55 = .ok (.aload_n 0, 1) := by decide +kernel
theorem dX4_problemOfClass_56 : decode cX4_problemOfClass 56 = .ok (.getfield 42, 3) := by decide +kernel
theorem dX4_problemOfClass_59 : decode cX4_problemOfClass 59 = .ok (.bipush 10, 2) := by decide +kernel
theorem dX4_problemOfClass_61 : decode cX4_problemOfClass 61 = .ok (.if_icmp .ge 7, 3) := by decide +kernel
theorem dX4_problemOfClass_64 : decode cX4_problemOfClass 64 = .ok (.iconst 0, 1) := by decide +kernel
theorem dX4_problemOfClass_65 : decode cX4_problemOfClass 65 = .ok (.goto 4, 3) := by decide +kernel
theorem dX4_problemOfClass_68 : decode cX4_problemOfClass 68 = .ok (.iconst 3, 1) := by decide +kernel
theorem dX4_problemOfClass_69 : decode cX4_problemOfClass 69 = .ok (.ireturn, 1) := by decide +kernel
theorem dX8_member_0 : decode cX8_member 0 = .ok (.iload_n 0, 1) := by decide +kernel
theorem dX8_member_1 : decode cX8_member 1 = .ok (.ifCond .lt 15, 3) := by decide +kernel
theorem dX8_member_4 : decode cX8_member 4 = .ok (.iload_n 0, 1) := by decide +kernel
theorem dX8_member_5 : decode cX8_member 5 = .ok (.bipush 40, 2) := by decide +kernel
theorem dX8_member_7 : decode cX8_member 7 = .ok (.if_icmp .ge 9, 3) := by decide +kernel
theorem dX8_member_10 : decode cX8_member 10 = .ok (.lconst 1, 1) := by decide +kernel
theorem dX8_member_11 : decode cX8_member 11 = .ok (.iload_n 0, 1) := by decide +kernel
theorem dX8_member_12 : decode cX8_member 12 = .ok (.lshl, 1) := by decide +kernel
theorem dX8_member_13 : decode cX8_member 13 = .ok (.goto 4, 3) := by decide +kernel
theorem dX8_member_16 : decode cX8_member 16 = .ok (.lconst 0, 1) := by decide +kernel
theorem dX8_member_17 : decode cX8_member 17 = .ok (.lreturn, 1) := by decide +kernel
theorem dX4_allObjects_0 : decode cX4_allObjects 0 = .ok (.lconst 0, 1) := by decide +kernel
theorem dX4_allObjects_1 : decode cX4_allObjects 1 = .ok (.lstore_n 1, 1) := by decide +kernel
theorem dX4_allObjects_2 : decode cX4_allObjects 2 = .ok (.iconst 0, 1) := by decide +kernel
theorem dX4_allObjects_3 : decode cX4_allObjects 3 = .ok (.istore_n 3, 1) := by decide +kernel
theorem dX4_allObjects_4 : decode cX4_allObjects 4 = .ok (.iload_n 3, 1) := by decide +kernel
theorem dX4_allObjects_5 : decode cX4_allObjects 5 = .ok (.bipush 40, 2) := by decide +kernel
theorem dX4_allObjects_7 : decode cX4_allObjects 7 = .ok (.if_icmp .ge 30, 3) := by decide +kernel
theorem dX4_allObjects_10 : decode cX4_allObjects 10 = .ok (.lload_n 1, 1) := by decide +kernel
theorem dX4_allObjects_11 : decode cX4_allObjects 11 = .ok (.aload_n 0, 1) := by decide +kernel
theorem dX4_allObjects_12 : decode cX4_allObjects 12 = .ok (.getfield 21, 3) := by decide +kernel
theorem dX4_allObjects_15 : decode cX4_allObjects 15 = .ok (.iload_n 3, 1) := by decide +kernel
theorem dX4_allObjects_16 : decode cX4_allObjects 16 = .ok (.iaload, 1) := by decide +kernel
theorem dX4_allObjects_17 : decode cX4_allObjects 17 = .ok (.iconst (-1), 1) := by decide +kernel
theorem dX4_allObjects_18 : decode cX4_allObjects 18 = .ok (.if_icmp .eq 10, 3) := by decide +kernel
theorem dX4_allObjects_21 : decode cX4_allObjects 21 = .ok (.iload_n 3, 1) := by decide +kernel
theorem dX4_allObjects_22 : decode cX4_allObjects 22 = .ok (.invokestatic 137, 3) := by decide +kernel
theorem dX4_allObjects_25 : decode cX4_allObjects 25 = .ok (.goto 4, 3) := by decide +kernel
theorem dX4_allObjects_28 : decode cX4_allObjects 28 = .ok (.lconst 0, 1) := by decide +kernel
theorem dX4_allObjects_29 : decode cX4_allObjects 29 = .ok (.lor, 1) := by decide +kernel
theorem dX4_allObjects_30 : decode cX4_allObjects 30 = .ok (.lstore_n 1, 1) := by decide +kernel
theorem dX4_allObjects_31 : decode cX4_allObjects 31 = .ok (.iinc 3 1, 3) := by decide +kernel
theorem dX4_allObjects_34 : decode cX4_allObjects 34 = .ok (.goto (-30), 3) := by decide +kernel
theorem dX4_allObjects_37 : decode cX4_allObjects 37 = .ok (.lload_n 1, 1) := by decide +kernel
theorem dX4_allObjects_38 : decode cX4_allObjects 38 = .ok (.lreturn, 1) := by decide +kernel
theorem dJ13_bitCount_95d88_0 : decode cJ13_bitCount_95d88 0 = .ok (.lload_n 0, 1) := by decide +kernel
theorem dJ13_bitCount_95d88_1 : decode cJ13_bitCount_95d88 1 = .ok (.lload_n 0, 1) := by decide +kernel
theorem dJ13_bitCount_95d88_2 : decode cJ13_bitCount_95d88 2 = .ok (.iconst 1, 1) := by decide +kernel
theorem dJ13_bitCount_95d88_3 : decode cJ13_bitCount_95d88 3 = .ok (.lushr, 1) := by decide +kernel
theorem dJ13_bitCount_95d88_4 : decode cJ13_bitCount_95d88 4 = .ok (.ldc2_w 314, 3) := by decide +kernel
theorem dJ13_bitCount_95d88_7 : decode cJ13_bitCount_95d88 7 = .ok (.land, 1) := by decide +kernel
theorem dJ13_bitCount_95d88_8 : decode cJ13_bitCount_95d88 8 = .ok (.lsub, 1) := by decide +kernel
theorem dJ13_bitCount_95d88_9 : decode cJ13_bitCount_95d88 9 = .ok (.lstore_n 0, 1) := by decide +kernel
theorem dJ13_bitCount_95d88_10 : decode cJ13_bitCount_95d88 10 = .ok (.lload_n 0, 1) := by decide +kernel
theorem dJ13_bitCount_95d88_11 : decode cJ13_bitCount_95d88 11 = .ok (.ldc2_w 316, 3) := by decide +kernel
theorem dJ13_bitCount_95d88_14 : decode cJ13_bitCount_95d88 14 = .ok (.land, 1) := by decide +kernel
theorem dJ13_bitCount_95d88_15 : decode cJ13_bitCount_95d88 15 = .ok (.lload_n 0, 1) := by decide +kernel
theorem dJ13_bitCount_95d88_16 : decode cJ13_bitCount_95d88 16 = .ok (.iconst 2, 1) := by decide +kernel
theorem dJ13_bitCount_95d88_17 : decode cJ13_bitCount_95d88 17 = .ok (.lushr, 1) := by decide +kernel
theorem dJ13_bitCount_95d88_18 : decode cJ13_bitCount_95d88 18 = .ok (.ldc2_w 316, 3) := by decide +kernel
theorem dJ13_bitCount_95d88_21 : decode cJ13_bitCount_95d88 21 = .ok (.land, 1) := by decide +kernel
theorem dJ13_bitCount_95d88_22 : decode cJ13_bitCount_95d88 22 = .ok (.ladd, 1) := by decide +kernel
theorem dJ13_bitCount_95d88_23 : decode cJ13_bitCount_95d88 23 = .ok (.lstore_n 0, 1) := by decide +kernel
theorem dJ13_bitCount_95d88_24 : decode cJ13_bitCount_95d88 24 = .ok (.lload_n 0, 1) := by decide +kernel
theorem dJ13_bitCount_95d88_25 : decode cJ13_bitCount_95d88 25 = .ok (.lload_n 0, 1) := by decide +kernel
theorem dJ13_bitCount_95d88_26 : decode cJ13_bitCount_95d88 26 = .ok (.iconst 4, 1) := by decide +kernel
theorem dJ13_bitCount_95d88_27 : decode cJ13_bitCount_95d88 27 = .ok (.lushr, 1) := by decide +kernel
theorem dJ13_bitCount_95d88_28 : decode cJ13_bitCount_95d88 28 = .ok (.ladd, 1) := by decide +kernel
theorem dJ13_bitCount_95d88_29 : decode cJ13_bitCount_95d88 29 = .ok (.ldc2_w 318, 3) := by decide +kernel
theorem dJ13_bitCount_95d88_32 : decode cJ13_bitCount_95d88 32 = .ok (.land, 1) := by decide +kernel
theorem dJ13_bitCount_95d88_33 : decode cJ13_bitCount_95d88 33 = .ok (.lstore_n 0, 1) := by decide +kernel
theorem dJ13_bitCount_95d88_34 : decode cJ13_bitCount_95d88 34 = .ok (.lload_n 0, 1) := by decide +kernel
theorem dJ13_bitCount_95d88_35 : decode cJ13_bitCount_95d88 35 = .ok (.lload_n 0, 1) := by decide +kernel
theorem dJ13_bitCount_95d88_36 : decode cJ13_bitCount_95d88 36 = .ok (.bipush 8, 2) := by decide +kernel
theorem dJ13_bitCount_95d88_38 : decode cJ13_bitCount_95d88 38 = .ok (.lushr, 1) := by decide +kernel
theorem dJ13_bitCount_95d88_39 : decode cJ13_bitCount_95d88 39 = .ok (.ladd, 1) := by decide +kernel
theorem dJ13_bitCount_95d88_40 : decode cJ13_bitCount_95d88 40 = .ok (.lstore_n 0, 1) := by decide +kernel
theorem dJ13_bitCount_95d88_41 : decode cJ13_bitCount_95d88 41 = .ok (.lload_n 0, 1) := by decide +kernel
theorem dJ13_bitCount_95d88_42 : decode cJ13_bitCount_95d88 42 = .ok (.lload_n 0, 1) := by decide +kernel
theorem dJ13_bitCount_95d88_43 : decode cJ13_bitCount_95d88 43 = .ok (.bipush 16, 2) := by decide +kernel
theorem dJ13_bitCount_95d88_45 : decode cJ13_bitCount_95d88 45 = .ok (.lushr, 1) := by decide +kernel
theorem dJ13_bitCount_95d88_46 : decode cJ13_bitCount_95d88 46 = .ok (.ladd, 1) := by decide +kernel
theorem dJ13_bitCount_95d88_47 : decode cJ13_bitCount_95d88 47 = .ok (.lstore_n 0, 1) := by decide +kernel
theorem dJ13_bitCount_95d88_48 : decode cJ13_bitCount_95d88 48 = .ok (.lload_n 0, 1) := by decide +kernel
theorem dJ13_bitCount_95d88_49 : decode cJ13_bitCount_95d88 49 = .ok (.lload_n 0, 1) := by decide +kernel
theorem dJ13_bitCount_95d88_50 : decode cJ13_bitCount_95d88 50 = .ok (.bipush 32, 2) := by decide +kernel
theorem dJ13_bitCount_95d88_52 : decode cJ13_bitCount_95d88 52 = .ok (.lushr, 1) := by decide +kernel
theorem dJ13_bitCount_95d88_53 : decode cJ13_bitCount_95d88 53 = .ok (.ladd, 1) := by decide +kernel
theorem dJ13_bitCount_95d88_54 : decode cJ13_bitCount_95d88 54 = .ok (.lstore_n 0, 1) := by decide +kernel
theorem dJ13_bitCount_95d88_55 : decode cJ13_bitCount_95d88 55 = .ok (.lload_n 0, 1) := by decide +kernel
theorem dJ13_bitCount_95d88_56 : decode cJ13_bitCount_95d88 56 = .ok (.l2i, 1) := by decide +kernel
theorem dJ13_bitCount_95d88_57 : decode cJ13_bitCount_95d88 57 = .ok (.bipush 127, 2) := by decide +kernel
theorem dJ13_bitCount_95d88_59 : decode cJ13_bitCount_95d88 59 = .ok (.iand, 1) := by decide +kernel
theorem dJ13_bitCount_95d88_60 : decode cJ13_bitCount_95d88 60 = .ok (.ireturn, 1) := by decide +kernel
theorem dX4_objectCount_0 : decode cX4_objectCount 0 = .ok (.aload_n 0, 1) := by decide +kernel
theorem dX4_objectCount_1 : decode cX4_objectCount 1 = .ok (.invokevirtual 108, 3) := by decide +kernel
theorem dX4_objectCount_4 : decode cX4_objectCount 4 = .ok (.invokestatic 141, 3) := by decide +kernel
theorem dX4_objectCount_7 : decode cX4_objectCount 7 = .ok (.ireturn, 1) := by decide +kernel
theorem dX4_problemOfHolder_0 : decode cX4_problemOfHolder 0 = .ok (.aload_n 0, 1) := by decide +kernel
theorem dX4_problemOfHolder_1 : decode cX4_problemOfHolder 1 = .ok (.invokevirtual 75, 3) := by decide +kernel
theorem dX4_problemOfHolder_4 : decode cX4_problemOfHolder 4 = .ok (.bipush 40, 2) := by decide +kernel
theorem dX4_problemOfHolder_6 : decode cX4_problemOfHolder 6 = .ok (.if_icmp .ge 7, 3) := by decide +kernel
theorem dX4_problemOfHolder_9 : decode cX4_problemOfHolder 9 = .ok (.iconst 0, 1) := by decide +kernel
theorem dX4_problemOfHolder_10 : decode cX4_problemOfHolder 10 = .ok (.goto 4, 3) := by decide +kernel
theorem dX4_problemOfHolder_13 : decode cX4_problemOfHolder 13 = .ok (.iconst 3, 1) := by decide +kernel
theorem dX4_problemOfHolder_14 : decode cX4_problemOfHolder 14 = .ok (.ireturn, 1) := by decide +kernel
theorem dX4_problemOfInstance_0 : decode cX4_problemOfInstance 0 = .ok (.aload_n 0, 1) := by decide +kernel
theorem dX4_problemOfInstance_1 : decode cX4_problemOfInstance 1 = .ok (.iload_n 1, 1) := by decide +kernel
theorem dX4_problemOfInstance_2 : decode cX4_problemOfInstance 2 = .ok (.invokevirtual 64, 3) := by decide +kernel
theorem dX4_problemOfInstance_5 : decode cX4_problemOfInstance 5 = .ok (.ifCond .eq 10, 3) := by decide +kernel
theorem dX4_problemOfInstance_8 : decode cX4_problemOfInstance 8 = .ok (.aload_n 0, 1) := by decide +kernel
theorem dX4_problemOfInstance_9 : decode cX4_problemOfInstance 9 = .ok (.invokevirtual 71, 3) := by decide +kernel
theorem dX4_problemOfInstance_12 : decode cX4_problemOfInstance 12 = .ok (.goto 4, 3) := by decide +kernel
theorem dX4_problemOfInstance_15 : decode cX4_problemOfInstance 15 = .ok (.iconst 1, 1) := by decide +kernel
theorem dX4_problemOfInstance_16 : decode cX4_problemOfInstance 16 = .ok (.ireturn, 1) := by decide +kernel
theorem dX4_problemOfArray_0 : decode cX4_problemOfArray 0 = .ok (.iload_n 1, 1) := by decide +kernel
theorem dX4_problemOfArray_1 : decode cX4_problemOfArray 1 = .ok (.ifCond .lt 16, 3) := by decide +kernel
theorem dX4_problemOfArray_4 : decode cX4_problemOfArray 4 = .ok (.iload_n 1, 1) := by decide +kernel
theorem dX4_problemOfArray_5 : decode cX4_problemOfArray 5 = .ok (.bipush 8, 2) := by decide +kernel
theorem dX4_problemOfArray_7 : decode cX4_problemOfArray 7 = .ok (.if_icmp .gt 10, 3) := by decide +kernel
theorem dX4_problemOfArray_10 : decode cX4_problemOfArray 10 = .ok (.aload_n 0, 1) := by decide +kernel
theorem dX4_problemOfArray_11 : decode cX4_problemOfArray 11 = .ok (.invokevirtual 71, 3) := by decide +kernel
theorem dX4_problemOfArray_14 : decode cX4_problemOfArray 14 = .ok (.goto 4, 3) := by decide +kernel
theorem dX4_problemOfArray_17 : decode cX4_problemOfArray 17 = .ok (.iconst 2, 1) := by decide +kernel
theorem dX4_problemOfArray_18 : decode cX4_problemOfArray 18 = .ok (.ireturn, 1) := by decide +kernel
theorem dX4_problemOfTarget_0 : decode cX4_problemOfTarget 0 = .ok (.aload_n 0, 1) := by decide +kernel
theorem dX4_problemOfTarget_1 : decode cX4_problemOfTarget 1 = .ok (.iload_n 1, 1) := by decide +kernel
theorem dX4_problemOfTarget_2 : decode cX4_problemOfTarget 2 = .ok (.iload_n 2, 1) := by decide +kernel
theorem dX4_problemOfTarget_3 : decode cX4_problemOfTarget 3 = .ok (.invokevirtual 78, 3) := by decide +kernel
theorem dX4_problemOfTarget_6 : decode cX4_problemOfTarget 6 = .ok (.ifCond .eq 20, 3) := by decide +kernel
theorem dX4_problemOfTarget_9 : decode cX4_problemOfTarget 9 = .ok (.iload_n 3, 1) := by decide +kernel
theorem dX4_problemOfTarget_10 : decode cX4_problemOfTarget 10 = .ok (.iconst (-1), 1) := by decide +kernel
theorem dX4_problemOfTarget_11 : decode cX4_problemOfTarget 11 = .ok (.if_icmp .eq 11, 3) := by decide +kernel
theorem dX4_problemOfTarget_14 : decode cX4_problemOfTarget 14 = .ok (.aload_n 0, 1) := by decide +kernel
theorem dX4_problemOfTarget_15 : decode cX4_problemOfTarget 15 = .ok (.iload_n 3, 1) := by decide +kernel
theorem dX4_problemOfTarget_16 : decode cX4_problemOfTarget 16 = .ok (.invokevirtual 68, 3) := by decide +kernel
theorem dX4_problemOfTarget_19 : decode cX4_problemOfTarget 19 = .ok (.ifCond .eq 7, 3) := by decide +kernel
theorem dX4_problemOfTarget_22 : decode cX4_problemOfTarget 22 = .ok (.iconst 1, 1) := by decide +kernel
theorem dX4_problemOfTarget_23 : decode cX4_problemOfTarget 23 = .ok (.goto 4, 3) := by decide +kernel
theorem dX4_problemOfTarget_26 : decode cX4_problemOfTarget 26 = .ok (.iconst 0, 1) := by decide +kernel
theorem dX4_problemOfTarget_27 : decode cX4_problemOfTarget 27 = .ok (.istore 4, 2) := by decide +kernel
theorem dX4_problemOfTarget_29 : decode cX4_problemOfTarget 29 = .ok (.iload 4, 2) := by decide +kernel
theorem dX4_problemOfTarget_31 : decode cX4_problemOfTarget 31 = .ok (.ifCond .eq 7, 3) := by decide +kernel
theorem dX4_problemOfTarget_34 : decode cX4_problemOfTarget 34 = .ok (.iconst 0, 1) := by decide +kernel
theorem dX4_problemOfTarget_35 : decode cX4_problemOfTarget 35 = .ok (.goto 4, 3) := by decide +kernel
theorem dX4_problemOfTarget_38 : decode cX4_problemOfTarget 38 = .ok (.iconst 1, 1) := by decide +kernel
theorem dX4_problemOfTarget_39 : decode cX4_problemOfTarget 39 = .ok (.ireturn, 1) := by decide +kernel
theorem dX8_problemOf_0 : decode cX8_problemOf 0 = .ok (.iload_n 0, 1) := by decide +kernel
theorem dX8_problemOf_1 : decode cX8_problemOf 1 = .ok (.ifCond .ne 5, 3) := by decide +kernel
theorem dX8_problemOf_4 : decode cX8_problemOf 4 = .ok (.iconst 1, 1) := by decide +kernel
theorem dX8_problemOf_5 : decode cX8_problemOf 5 = .ok (.ireturn, 1) := by decide +kernel
theorem dX8_problemOf_6 : decode cX8_problemOf 6 = .ok (.iload_n 1, 1) := by decide +kernel
theorem dX8_problemOf_7 : decode cX8_problemOf 7 = .ok (.ifCond .lt 12, 3) := by decide +kernel
theorem dX8_problemOf_10 : decode cX8_problemOf 10 = .ok (.iload_n 1, 1) := by decide +kernel
theorem dX8_problemOf_11 : decode cX8_problemOf 11 = .ok (.iload_n 2, 1) := by decide +kernel
theorem dX8_problemOf_12 : decode cX8_problemOf 12 = .ok (.if_icmp .gt 7, 3) := by decide +kernel
theorem dX8_problemOf_15 : decode cX8_problemOf 15 = .ok (.iconst 0, 1) := by decide +kernel
theorem dX8_problemOf_16 : decode cX8_problemOf 16 = .ok (.goto 4, 3) := by decide +kernel
theorem dX8_problemOf_19 : decode cX8_problemOf 19 = .ok (.iconst 2, 1) := by decide +kernel
theorem dX8_problemOf_20 : decode cX8_problemOf 20 = .ok (.ireturn, 1) := by decide +kernel
theorem dX4_problemOfLength_0 : decode cX4_problemOfLength 0 = .ok (.aload_n 0, 1) := by decide +kernel
theorem dX4_problemOfLength_1 : decode cX4_problemOfLength 1 = .ok (.iload_n 1, 1) := by decide +kernel
theorem dX4_problemOfLength_2 : decode cX4_problemOfLength 2 = .ok (.invokevirtual 68, 3) := by decide +kernel
theorem dX4_problemOfLength_5 : decode cX4_problemOfLength 5 = .ok (.iload_n 2, 1) := by decide +kernel
theorem dX4_problemOfLength_6 : decode cX4_problemOfLength 6 = .ok (.bipush 8, 2) := by decide +kernel
theorem dX4_problemOfLength_8 : decode cX4_problemOfLength 8 = .ok (.invokestatic 82, 3) := by decide +kernel
theorem dX4_problemOfLength_11 : decode cX4_problemOfLength 11 = .ok (.istore_n 3, 1) := by decide +kernel
theorem dX4_problemOfLength_12 : decode cX4_problemOfLength 12 = .ok (.iload_n 3, 1) := by decide +kernel
theorem dX4_problemOfLength_13 : decode cX4_problemOfLength 13 = .ok (.ifCond .eq 5, 3) := by decide +kernel
theorem dX4_problemOfLength_16 : decode cX4_problemOfLength 16 = .ok (.iload_n 3, 1) := by decide +kernel
theorem dX4_problemOfLength_17 : decode cX4_problemOfLength 17 = .ok (.ireturn, 1) := by decide +kernel
theorem dX4_problemOfLength_18 : decode cX4_problemOfLength 18 = .ok (.aload_n 0, 1) := by decide +kernel
theorem dX4_problemOfLength_19 : decode cX4_problemOfLength 19 = .ok (.getfield 21, 3) := by decide +kernel
theorem dX4_problemOfLength_22 : decode cX4_problemOfLength 22 = .ok (.iload_n 1, 1) := by decide +kernel
theorem dX4_problemOfLength_23 : decode cX4_problemOfLength 23 = .ok (.iaload, 1) := by decide +kernel
theorem dX4_problemOfLength_24 : decode cX4_problemOfLength 24 = .ok (.bipush 10, 2) := by decide +kernel
theorem dX4_problemOfLength_26 : decode cX4_problemOfLength 26 = .ok (.if_icmp .ne 7, 3) := by decide +kernel
theorem dX4_problemOfLength_29 : decode cX4_problemOfLength 29 = .ok (.iconst 0, 1) := by decide +kernel
theorem dX4_problemOfLength_30 : decode cX4_problemOfLength 30 = .ok (.goto 4, 3) := by decide +kernel
theorem dX4_problemOfLength_33 : decode cX4_problemOfLength 33 = .ok (.iconst 3, 1) := by decide +kernel
theorem dX4_problemOfLength_34 : decode cX4_problemOfLength 34 = .ok (.ireturn, 1) := by decide +kernel
theorem dX4_problemOfRoot_0 : decode cX4_problemOfRoot 0 = .ok (.aload_n 0, 1) := by decide +kernel
theorem dX4_problemOfRoot_1 : decode cX4_problemOfRoot 1 = .ok (.iload_n 1, 1) := by decide +kernel
theorem dX4_problemOfRoot_2 : decode cX4_problemOfRoot 2 = .ok (.invokevirtual 68, 3) := by decide +kernel
theorem dX4_problemOfRoot_5 : decode cX4_problemOfRoot 5 = .ok (.iload_n 2, 1) := by decide +kernel
theorem dX4_problemOfRoot_6 : decode cX4_problemOfRoot 6 = .ok (.iconst 2, 1) := by decide +kernel
theorem dX4_problemOfRoot_7 : decode cX4_problemOfRoot 7 = .ok (.invokestatic 82, 3) := by decide +kernel
theorem dX4_problemOfRoot_10 : decode cX4_problemOfRoot 10 = .ok (.ireturn, 1) := by decide +kernel
theorem dX4_problemOfUnrooting_0 : decode cX4_problemOfUnrooting 0 = .ok (.aload_n 0, 1) := by decide +kernel
theorem dX4_problemOfUnrooting_1 : decode cX4_problemOfUnrooting 1 = .ok (.iload_n 1, 1) := by decide +kernel
theorem dX4_problemOfUnrooting_2 : decode cX4_problemOfUnrooting 2 = .ok (.iload_n 2, 1) := by decide +kernel
theorem dX4_problemOfUnrooting_3 : decode cX4_problemOfUnrooting 3 = .ok (.invokevirtual 86, 3) := by decide +kernel
theorem dX4_problemOfUnrooting_6 : decode cX4_problemOfUnrooting 6 = .ok (.istore_n 3, 1) := by decide +kernel
theorem dX4_problemOfUnrooting_7 : decode cX4_problemOfUnrooting 7 = .ok (.iload_n 3, 1) := by decide +kernel
theorem dX4_problemOfUnrooting_8 : decode cX4_problemOfUnrooting 8 = .ok (.ifCond .eq 5, 3) := by decide +kernel
theorem dX4_problemOfUnrooting_11 : decode cX4_problemOfUnrooting 11 = .ok (.iload_n 3, 1) := by decide +kernel
theorem dX4_problemOfUnrooting_12 : decode cX4_problemOfUnrooting 12 = .ok (.ireturn, 1) := by decide +kernel
theorem dX4_problemOfUnrooting_13 : decode cX4_problemOfUnrooting 13 = .ok (.aload_n 0, 1) := by decide +kernel
theorem dX4_problemOfUnrooting_14 : decode cX4_problemOfUnrooting 14 = .ok (.getfield 36, 3) := by decide +kernel
theorem dX4_problemOfUnrooting_17 : decode cX4_problemOfUnrooting 17 = .ok (.iload_n 1, 1) := by decide +kernel
theorem dX4_problemOfUnrooting_18 : decode cX4_problemOfUnrooting 18 = .ok (.iaload, 1) := by decide +kernel
theorem dX4_problemOfUnrooting_19 : decode cX4_problemOfUnrooting 19 = .ok (.iload_n 2, 1) := by decide +kernel
theorem dX4_problemOfUnrooting_20 : decode cX4_problemOfUnrooting 20 = .ok (.ishr, 1) := by decide +kernel
theorem dX4_problemOfUnrooting_21 : decode cX4_problemOfUnrooting 21 = .ok (.iconst 1, 1) := by decide +kernel
theorem dX4_problemOfUnrooting_22 : decode cX4_problemOfUnrooting 22 = .ok (.iand, 1) := by decide +kernel
theorem dX4_problemOfUnrooting_23 : decode cX4_problemOfUnrooting 23 = .ok (.iconst 1, 1) := by decide +kernel
theorem dX4_problemOfUnrooting_24 : decode cX4_problemOfUnrooting 24 = .ok (.if_icmp .ne 7, 3) := by decide +kernel
theorem dX4_problemOfUnrooting_27 : decode cX4_problemOfUnrooting 27 = .ok (.iconst 0, 1) := by decide +kernel
theorem dX4_problemOfUnrooting_28 : decode cX4_problemOfUnrooting 28 = .ok (.goto 4, 3) := by decide +kernel
theorem dX4_problemOfUnrooting_31 : decode cX4_problemOfUnrooting 31 = .ok (.iconst 3, 1) := by decide +kernel
theorem dX4_problemOfUnrooting_32 : decode cX4_problemOfUnrooting 32 = .ok (.ireturn, 1) := by decide +kernel
theorem dX4_addClass_0 : decode cX4_addClass 0 = .ok (.aload_n 0, 1) := by decide +kernel
theorem dX4_addClass_1 : decode cX4_addClass 1 = .ok (.getfield 42, 3) := by decide +kernel
theorem dX4_addClass_4 : decode cX4_addClass 4 = .ok (.bipush 10, 2) := by decide +kernel
theorem dX4_addClass_6 : decode cX4_addClass 6 = .ok (.if_icmp .ge 11, 3) := by decide +kernel
theorem dX4_addClass_9 : decode cX4_addClass 9 = .ok (.aload_n 0, 1) := by decide +kernel
theorem dX4_addClass_10 : decode cX4_addClass 10 = .ok (.iload_n 1, 1) := by decide +kernel
theorem dX4_addClass_11 : decode cX4_addClass 11 = .ok (.invokevirtual 64, 3) := by decide +kernel
theorem dX4_addClass_14 : decode cX4_addClass 14 = .ok (.ifCond .ne 5, 3) := by decide +kernel
theorem dX4_addClass_17 : decode cX4_addClass 17 = .ok (.iconst (-1), 1) := by decide +kernel
theorem dX4_addClass_18 : decode cX4_addClass 18 = .ok (.ireturn, 1) := by decide +kernel
theorem dX4_addClass_19 : decode cX4_addClass 19 = .ok (.aload_n 0, 1) := by decide +kernel
theorem dX4_addClass_20 : decode cX4_addClass 20 = .ok (.getfield 9, 3) := by decide +kernel
theorem dX4_addClass_23 : decode cX4_addClass 23 = .ok (.aload_n 0, 1) := by decide +kernel
theorem dX4_addClass_24 : decode cX4_addClass 24 = .ok (.getfield 42, 3) := by decide +kernel
theorem dX4_addClass_27 : decode cX4_addClass 27 = .ok (.iload_n 1, 1) := by decide +kernel
theorem dX4_addClass_28 : decode cX4_addClass 28 = .ok (.iastore, 1) := by decide +kernel
theorem dX4_addClass_29 : decode cX4_addClass 29 = .ok (.aload_n 0, 1) := by decide +kernel
theorem dX4_addClass_30 : decode cX4_addClass 30 = .ok (.getfield 15, 3) := by decide +kernel
theorem dX4_addClass_33 : decode cX4_addClass 33 = .ok (.aload_n 0, 1) := by decide +kernel
theorem dX4_addClass_34 : decode cX4_addClass 34 = .ok (.getfield 42, 3) := by decide +kernel
theorem dX4_addClass_37 : decode cX4_addClass 37 = .ok (.aload_n 0, 1) := by decide +kernel
theorem dX4_addClass_38 : decode cX4_addClass 38 = .ok (.getfield 15, 3) := by decide +kernel
theorem dX4_addClass_41 : decode cX4_addClass 41 = .ok (.iload_n 1, 1) := by decide +kernel
theorem dX4_addClass_42 : decode cX4_addClass 42 = .ok (.iaload, 1) := by decide +kernel
theorem dX4_addClass_43 : decode cX4_addClass 43 = .ok (.iload_n 2, 1) := by decide +kernel
theorem dX4_addClass_44 : decode cX4_addClass 44 = .ok (.iadd, 1) := by decide +kernel
theorem dX4_addClass_45 : decode cX4_addClass 45 = .ok (.iastore, 1) := by decide +kernel
theorem dX4_addClass_46 : decode cX4_addClass 46 = .ok (.aload_n 0, 1) := by decide +kernel
theorem dX4_addClass_47 : decode cX4_addClass 47 = .ok (.getfield 18, 3) := by decide +kernel
theorem dX4_addClass_50 : decode cX4_addClass 50 = .ok (.aload_n 0, 1) := by decide +kernel
theorem dX4_addClass_51 : decode cX4_addClass 51 = .ok (.getfield 42, 3) := by decide +kernel
theorem dX4_addClass_54 : decode cX4_addClass 54 = .ok (.aload_n 0, 1) := by decide +kernel
theorem dX4_addClass_55 : decode cX4_addClass 55 = .ok (.getfield 18, 3) := by decide +kernel
theorem dX4_addClass_58 : decode cX4_addClass 58 = .ok (.iload_n 1, 1) := by decide +kernel
theorem dX4_addClass_59 : decode cX4_addClass 59 = .ok (.iaload, 1) := by decide +kernel
theorem dX4_addClass_60 : decode cX4_addClass 60 = .ok (.iload_n 3, 1) := by decide +kernel
theorem dX4_addClass_61 : decode cX4_addClass 61 = .ok (.iadd, 1) := by decide +kernel
theorem dX4_addClass_62 : decode cX4_addClass 62 = .ok (.iastore, 1) := by decide +kernel
theorem dX4_addClass_63 : decode cX4_addClass 63 = .ok (.aload_n 0, 1) := by decide +kernel
theorem dX4_addClass_64 : decode cX4_addClass 64 = .ok (.dup, 1) := by decide +kernel
theorem dX4_addClass_65 : decode cX4_addClass 65 = .ok (.getfield 42, 3) := by decide +kernel
theorem dX4_addClass_68 : decode cX4_addClass 68 = .ok (.iconst 1, 1) := by decide +kernel
theorem dX4_addClass_69 : decode cX4_addClass 69 = .ok (.iadd, 1) := by decide +kernel
theorem dX4_addClass_70 : decode cX4_addClass 70 = .ok (.putfield 42, 3) := by decide +kernel
theorem dX4_addClass_73 : decode cX4_addClass 73 = .ok (.aload_n 0, 1) := by decide +kernel
theorem dX4_addClass_74 : decode cX4_addClass 74 = .ok (.dup, 1) := by decide +kernel
theorem dX4_addClass_75 : decode cX4_addClass 75 = .ok (.getfield 61, 3) := by decide +kernel
theorem dX4_addClass_78 : decode cX4_addClass 78 = .ok (.iconst 1, 1) := by decide +kernel
theorem dX4_addClass_79 : decode cX4_addClass 79 = .ok (.iadd, 1) := by decide +kernel
theorem dX4_addClass_80 : decode cX4_addClass 80 = .ok (.putfield 61, 3) := by decide +kernel
theorem dX4_addClass_83 : decode cX4_addClass 83 = .ok (.aload_n 0, 1) := by decide +kernel
theorem dX4_addClass_84 : decode cX4_addClass 84 = .ok (.getfield 42, 3) := by decide +kernel
theorem dX4_addClass_87 : decode cX4_addClass 87 = .ok (.iconst 1, 1) := by decide +kernel
theorem dX4_addClass_88 : decode cX4_addClass 88 = .ok (.isub, 1) := by decide +kernel
theorem dX4_addClass_89 : decode cX4_addClass 89 = .ok (.ireturn, 1) := by decide +kernel
theorem dX4_roundedUp_0 : decode cX4_roundedUp 0 = .ok (.iload_n 0, 1) := by decide +kernel
theorem dX4_roundedUp_1 : decode cX4_roundedUp 1 = .ok (.bipush 7, 2) := by decide +kernel
theorem dX4_roundedUp_3 : decode cX4_roundedUp 3 = .ok (.iadd, 1) := by decide +kernel
theorem dX4_roundedUp_4 : decode cX4_roundedUp 4 = .ok (.bipush 8, 2) := by decide +kernel
theorem dX4_roundedUp_6 : decode cX4_roundedUp 6 = .ok (.idiv, 1) := by decide +kernel
theorem dX4_roundedUp_7 : decode cX4_roundedUp 7 = .ok (.bipush 8, 2) := by decide +kernel
theorem dX4_roundedUp_9 : decode cX4_roundedUp 9 = .ok (.imul, 1) := by decide +kernel
theorem dX4_roundedUp_10 : decode cX4_roundedUp 10 = .ok (.ireturn, 1) := by decide +kernel
theorem dX4_sizeOfInstance_0 : decode cX4_sizeOfInstance 0 = .ok (.bipush 12, 2) := by decide +kernel
theorem dX4_sizeOfInstance_2 : decode cX4_sizeOfInstance 2 = .ok (.iconst 4, 1) := by decide +kernel
theorem dX4_sizeOfInstance_3 : decode cX4_sizeOfInstance 3 = .ok (.aload_n 0, 1) := by decide +kernel
theorem dX4_sizeOfInstance_4 : decode cX4_sizeOfInstance 4 = .ok (.getfield 15, 3) := by decide +kernel
theorem dX4_sizeOfInstance_7 : decode cX4_sizeOfInstance 7 = .ok (.iload_n 1, 1) := by decide +kernel
theorem dX4_sizeOfInstance_8 : decode cX4_sizeOfInstance 8 = .ok (.iaload, 1) := by decide +kernel
theorem dX4_sizeOfInstance_9 : decode cX4_sizeOfInstance 9 = .ok (.imul, 1) := by decide +kernel
theorem dX4_sizeOfInstance_10 : decode cX4_sizeOfInstance 10 = .ok (.iadd, 1) := by decide +kernel
theorem dX4_sizeOfInstance_11 : decode cX4_sizeOfInstance 11 = .ok (.aload_n 0, 1) := by decide +kernel
theorem dX4_sizeOfInstance_12 : decode cX4_sizeOfInstance 12 = .ok (.getfield 18, 3) := by decide +kernel
theorem dX4_sizeOfInstance_15 : decode cX4_sizeOfInstance 15 = .ok (.iload_n 1, 1) := by decide +kernel
theorem dX4_sizeOfInstance_16 : decode cX4_sizeOfInstance 16 = .ok (.iaload, 1) := by decide +kernel
theorem dX4_sizeOfInstance_17 : decode cX4_sizeOfInstance 17 = .ok (.iadd, 1) := by decide +kernel
theorem dX4_sizeOfInstance_18 : decode cX4_sizeOfInstance 18 = .ok (.invokestatic 134, 3) := by decide +kernel
theorem dX4_sizeOfInstance_21 : decode cX4_sizeOfInstance 21 = .ok (.ireturn, 1) := by decide +kernel
theorem dX4_lowestFree_0 : decode cX4_lowestFree 0 = .ok (.iconst 0, 1) := by decide +kernel
theorem dX4_lowestFree_1 : decode cX4_lowestFree 1 = .ok (.istore_n 1, 1) := by decide +kernel
theorem dX4_lowestFree_2 : decode cX4_lowestFree 2 = .ok (.iload_n 1, 1) := by decide +kernel
theorem dX4_lowestFree_3 : decode cX4_lowestFree 3 = .ok (.bipush 40, 2) := by decide +kernel
theorem dX4_lowestFree_5 : decode cX4_lowestFree 5 = .ok (.if_icmp .ge 21, 3) := by decide +kernel
theorem dX4_lowestFree_8 : decode cX4_lowestFree 8 = .ok (.aload_n 0, 1) := by decide +kernel
theorem dX4_lowestFree_9 : decode cX4_lowestFree 9 = .ok (.getfield 21, 3) := by decide +kernel
theorem dX4_lowestFree_12 : decode cX4_lowestFree 12 = .ok (.iload_n 1, 1) := by decide +kernel
theorem dX4_lowestFree_13 : decode cX4_lowestFree 13 = .ok (.iaload, 1) := by decide +kernel
theorem dX4_lowestFree_14 : decode cX4_lowestFree 14 = .ok (.iconst (-1), 1) := by decide +kernel
theorem dX4_lowestFree_15 : decode cX4_lowestFree 15 = .ok (.if_icmp .ne 5, 3) := by decide +kernel
theorem dX4_lowestFree_18 : decode cX4_lowestFree 18 = .ok (.iload_n 1, 1) := by decide +kernel
theorem dX4_lowestFree_19 : decode cX4_lowestFree 19 = .ok (.ireturn, 1) := by decide +kernel
theorem dX4_lowestFree_20 : decode cX4_lowestFree 20 = .ok (.iinc 1 1, 3) := by decide +kernel
theorem dX4_lowestFree_23 : decode cX4_lowestFree 23 = .ok (.goto (-21), 3) := by decide +kernel
theorem dX4_lowestFree_26 : decode cX4_lowestFree 26 = .ok (.iconst (-1), 1) := by decide +kernel
theorem dX4_lowestFree_27 : decode cX4_lowestFree 27 = .ok (.ireturn, 1) := by decide +kernel
theorem dX4_emptySlotsFrom_0 : decode cX4_emptySlotsFrom 0 = .ok (.iload_n 2, 1) := by decide +kernel
theorem dX4_emptySlotsFrom_1 : decode cX4_emptySlotsFrom 1 = .ok (.istore_n 3, 1) := by decide +kernel
theorem dX4_emptySlotsFrom_2 : decode cX4_emptySlotsFrom 2 = .ok (.iload_n 3, 1) := by decide +kernel
theorem dX4_emptySlotsFrom_3 : decode cX4_emptySlotsFrom 3 = .ok (.bipush 8, 2) := by decide +kernel
theorem dX4_emptySlotsFrom_5 : decode cX4_emptySlotsFrom 5 = .ok (.if_icmp .ge 21, 3) := by decide +kernel
theorem dX4_emptySlotsFrom_8 : decode cX4_emptySlotsFrom 8 = .ok (.aload_n 0, 1) := by decide +kernel
theorem dX4_emptySlotsFrom_9 : decode cX4_emptySlotsFrom 9 = .ok (.getfield 39, 3) := by decide +kernel
theorem dX4_emptySlotsFrom_12 : decode cX4_emptySlotsFrom 12 = .ok (.iload_n 1, 1) := by decide +kernel
theorem dX4_emptySlotsFrom_13 : decode cX4_emptySlotsFrom 13 = .ok (.bipush 8, 2) := by decide +kernel
theorem dX4_emptySlotsFrom_15 : decode cX4_emptySlotsFrom 15 = .ok (.imul, 1) := by decide +kernel
theorem dX4_emptySlotsFrom_16 : decode cX4_emptySlotsFrom 16 = .ok (.iload_n 3, 1) := by decide +kernel
theorem dX4_emptySlotsFrom_17 : decode cX4_emptySlotsFrom 17 = .ok (.iadd, 1) := by decide +kernel
theorem dX4_emptySlotsFrom_18 : decode cX4_emptySlotsFrom 18 = .ok (.iconst (-1), 1) := by decide +kernel
theorem dX4_emptySlotsFrom_19 : decode cX4_emptySlotsFrom 19 = .ok (.iastore, 1) := by decide +kernel
theorem dX4_emptySlotsFrom_20 : decode cX4_emptySlotsFrom 20 = .ok (.iinc 3 1, 3) := by decide +kernel
theorem dX4_emptySlotsFrom_23 : decode cX4_emptySlotsFrom 23 = .ok (.goto (-21), 3) := by decide +kernel
theorem dX4_emptySlotsFrom_26 : decode cX4_emptySlotsFrom 26 = .ok (.return_, 1) := by decide +kernel
theorem dX4_addObject_0 : decode cX4_addObject 0 = .ok (.aload_n 0, 1) := by decide +kernel
theorem dX4_addObject_1 : decode cX4_addObject 1 = .ok (.invokevirtual 101, 3) := by decide +kernel
theorem dX4_addObject_4 : decode cX4_addObject 4 = .ok (.istore 4, 2) := by decide +kernel
theorem dX4_addObject_6 : decode cX4_addObject 6 = .ok (.iload 4, 2) := by decide +kernel
theorem dX4_addObject_8 : decode cX4_addObject 8 = .ok (.iconst (-1), 1) := by decide +kernel
theorem dX4_addObject_9 : decode cX4_addObject 9 = .ok (.if_icmp .ne 5, 3) := by decide +kernel
theorem dX4_addObject_12 : decode cX4_addObject 12 = .ok (.iconst (-1), 1) := by decide +kernel
theorem dX4_addObject_13 : decode cX4_addObject 13 = .ok (.ireturn, 1) := by decide +kernel
theorem dX4_addObject_14 : decode cX4_addObject 14 = .ok (.aload_n 0, 1) := by decide +kernel
theorem dX4_addObject_15 : decode cX4_addObject 15 = .ok (.getfield 21, 3) := by decide +kernel
theorem dX4_addObject_18 : decode cX4_addObject 18 = .ok (.iload 4, 2) := by decide +kernel
theorem dX4_addObject_20 : decode cX4_addObject 20 = .ok (.iload_n 1, 1) := by decide +kernel
theorem dX4_addObject_21 : decode cX4_addObject 21 = .ok (.iastore, 1) := by decide +kernel
theorem dX4_addObject_22 : decode cX4_addObject 22 = .ok (.aload_n 0, 1) := by decide +kernel
theorem dX4_addObject_23 : decode cX4_addObject 23 = .ok (.getfield 24, 3) := by decide +kernel
theorem dX4_addObject_26 : decode cX4_addObject 26 = .ok (.iload 4, 2) := by decide +kernel
theorem dX4_addObject_28 : decode cX4_addObject 28 = .ok (.aload_n 0, 1) := by decide +kernel
theorem dX4_addObject_29 : decode cX4_addObject 29 = .ok (.getfield 52, 3) := by decide +kernel
theorem dX4_addObject_32 : decode cX4_addObject 32 = .ok (.iastore, 1) := by decide +kernel
theorem dX4_addObject_33 : decode cX4_addObject 33 = .ok (.aload_n 0, 1) := by decide +kernel
theorem dX4_addObject_34 : decode cX4_addObject 34 = .ok (.dup, 1) := by decide +kernel
theorem dX4_addObject_35 : decode cX4_addObject 35 = .ok (.getfield 52, 3) := by decide +kernel
theorem dX4_addObject_38 : decode cX4_addObject 38 = .ok (.iconst 1, 1) := by decide +kernel
theorem dX4_addObject_39 : decode cX4_addObject 39 = .ok (.iadd, 1) := by decide +kernel
theorem dX4_addObject_40 : decode cX4_addObject 40 = .ok (.putfield 52, 3) := by decide +kernel
theorem dX4_addObject_43 : decode cX4_addObject 43 = .ok (.aload_n 0, 1) := by decide +kernel
theorem dX4_addObject_44 : decode cX4_addObject 44 = .ok (.getfield 27, 3) := by decide +kernel
theorem dX4_addObject_47 : decode cX4_addObject 47 = .ok (.iload 4, 2) := by decide +kernel
theorem dX4_addObject_49 : decode cX4_addObject 49 = .ok (.iload_n 3, 1) := by decide +kernel
theorem dX4_addObject_50 : decode cX4_addObject 50 = .ok (.iastore, 1) := by decide +kernel
theorem dX4_addObject_51 : decode cX4_addObject 51 = .ok (.aload_n 0, 1) := by decide +kernel
theorem dX4_addObject_52 : decode cX4_addObject 52 = .ok (.getfield 30, 3) := by decide +kernel
theorem dX4_addObject_55 : decode cX4_addObject 55 = .ok (.iload 4, 2) := by decide +kernel
theorem dX4_addObject_57 : decode cX4_addObject 57 = .ok (.iload_n 2, 1) := by decide +kernel
theorem dX4_addObject_58 : decode cX4_addObject 58 = .ok (.iastore, 1) := by decide +kernel
theorem dX4_addObject_59 : decode cX4_addObject 59 = .ok (.aload_n 0, 1) := by decide +kernel
theorem dX4_addObject_60 : decode cX4_addObject 60 = .ok (.getfield 33, 3) := by decide +kernel
theorem dX4_addObject_63 : decode cX4_addObject 63 = .ok (.iload 4, 2) := by decide +kernel
theorem dX4_addObject_65 : decode cX4_addObject 65 = .ok (.iconst 0, 1) := by decide +kernel
theorem dX4_addObject_66 : decode cX4_addObject 66 = .ok (.iastore, 1) := by decide +kernel
theorem dX4_addObject_67 : decode cX4_addObject 67 = .ok (.aload_n 0, 1) := by decide +kernel
theorem dX4_addObject_68 : decode cX4_addObject 68 = .ok (.getfield 36, 3) := by decide +kernel
theorem dX4_addObject_71 : decode cX4_addObject 71 = .ok (.iload 4, 2) := by decide +kernel
theorem dX4_addObject_73 : decode cX4_addObject 73 = .ok (.iconst 0, 1) := by decide +kernel
theorem dX4_addObject_74 : decode cX4_addObject 74 = .ok (.iastore, 1) := by decide +kernel
theorem dX4_addObject_75 : decode cX4_addObject 75 = .ok (.aload_n 0, 1) := by decide +kernel
theorem dX4_addObject_76 : decode cX4_addObject 76 = .ok (.iload 4, 2) := by decide +kernel
theorem dX4_addObject_78 : decode cX4_addObject 78 = .ok (.iconst 0, 1) := by decide +kernel
theorem dX4_addObject_79 : decode cX4_addObject 79 = .ok (.invokevirtual 104, 3) := by decide +kernel
theorem dX4_addObject_82 : decode cX4_addObject 82 = .ok (.aload_n 0, 1) := by decide +kernel
theorem dX4_addObject_83 : decode cX4_addObject 83 = .ok (.dup, 1) := by decide +kernel
theorem dX4_addObject_84 : decode cX4_addObject 84 = .ok (.getfield 61, 3) := by decide +kernel
theorem dX4_addObject_87 : decode cX4_addObject 87 = .ok (.iconst 1, 1) := by decide +kernel
theorem dX4_addObject_88 : decode cX4_addObject 88 = .ok (.iadd, 1) := by decide +kernel
theorem dX4_addObject_89 : decode cX4_addObject 89 = .ok (.putfield 61, 3) := by decide +kernel
theorem dX4_addObject_92 : decode cX4_addObject 92 = .ok (.iload 4, 2) := by decide +kernel
theorem dX4_addObject_94 : decode cX4_addObject 94 = .ok (.ireturn, 1) := by decide +kernel
theorem dX4_addInstance_0 : decode cX4_addInstance 0 = .ok (.aload_n 0, 1) := by decide +kernel
theorem dX4_addInstance_1 : decode cX4_addInstance 1 = .ok (.iload_n 1, 1) := by decide +kernel
theorem dX4_addInstance_2 : decode cX4_addInstance 2 = .ok (.invokevirtual 64, 3) := by decide +kernel
theorem dX4_addInstance_5 : decode cX4_addInstance 5 = .ok (.ifCond .eq 22, 3) := by decide +kernel
theorem dX4_addInstance_8 : decode cX4_addInstance 8 = .ok (.aload_n 0, 1) := by decide +kernel
theorem dX4_addInstance_9 : decode cX4_addInstance 9 = .ok (.iload_n 1, 1) := by decide +kernel
theorem dX4_addInstance_10 : decode cX4_addInstance 10 = .ok (.aload_n 0, 1) := by decide +kernel
theorem dX4_addInstance_11 : decode cX4_addInstance 11 = .ok (.getfield 15, 3) := by decide +kernel
theorem dX4_addInstance_14 : decode cX4_addInstance 14 = .ok (.iload_n 1, 1) := by decide +kernel
theorem dX4_addInstance_15 : decode cX4_addInstance 15 = .ok (.iaload, 1) := by decide +kernel
theorem dX4_addInstance_16 : decode cX4_addInstance 16 = .ok (.aload_n 0, 1) := by decide +kernel
theorem dX4_addInstance_17 : decode cX4_addInstance 17 = .ok (.iload_n 1, 1) := by decide +kernel
theorem dX4_addInstance_18 : decode cX4_addInstance 18 = .ok (.invokevirtual 90, 3) := by decide +kernel
theorem dX4_addInstance_21 : decode cX4_addInstance 21 = .ok (.invokevirtual 94, 3) := by decide +kernel
theorem dX4_addInstance_24 : decode cX4_addInstance 24 = .ok (.goto 4, 3) := by decide +kernel
theorem dX4_addInstance_27 : decode cX4_addInstance 27 = .ok (.iconst (-1), 1) := by decide +kernel
theorem dX4_addInstance_28 : decode cX4_addInstance 28 = .ok (.ireturn, 1) := by decide +kernel
theorem dX4_sizeOfArray_0 : decode cX4_sizeOfArray 0 = .ok (.bipush 16, 2) := by decide +kernel
theorem dX4_sizeOfArray_2 : decode cX4_sizeOfArray 2 = .ok (.iconst 4, 1) := by decide +kernel
theorem dX4_sizeOfArray_3 : decode cX4_sizeOfArray 3 = .ok (.iload_n 0, 1) := by decide +kernel
theorem dX4_sizeOfArray_4 : decode cX4_sizeOfArray 4 = .ok (.imul, 1) := by decide +kernel
theorem dX4_sizeOfArray_5 : decode cX4_sizeOfArray 5 = .ok (.iadd, 1) := by decide +kernel
theorem dX4_sizeOfArray_6 : decode cX4_sizeOfArray 6 = .ok (.invokestatic 134, 3) := by decide +kernel
theorem dX4_sizeOfArray_9 : decode cX4_sizeOfArray 9 = .ok (.ireturn, 1) := by decide +kernel
theorem dX4_addArray_0 : decode cX4_addArray 0 = .ok (.aload_n 0, 1) := by decide +kernel
theorem dX4_addArray_1 : decode cX4_addArray 1 = .ok (.bipush 10, 2) := by decide +kernel
theorem dX4_addArray_3 : decode cX4_addArray 3 = .ok (.iload_n 1, 1) := by decide +kernel
theorem dX4_addArray_4 : decode cX4_addArray 4 = .ok (.iload_n 1, 1) := by decide +kernel
theorem dX4_addArray_5 : decode cX4_addArray 5 = .ok (.invokestatic 98, 3) := by decide +kernel
theorem dX4_addArray_8 : decode cX4_addArray 8 = .ok (.invokevirtual 94, 3) := by decide +kernel
theorem dX4_addArray_11 : decode cX4_addArray 11 = .ok (.ireturn, 1) := by decide +kernel
theorem dX4_addHolder_0 : decode cX4_addHolder 0 = .ok (.aload_n 0, 1) := by decide +kernel
theorem dX4_addHolder_1 : decode cX4_addHolder 1 = .ok (.bipush 11, 2) := by decide +kernel
theorem dX4_addHolder_3 : decode cX4_addHolder 3 = .ok (.iconst 1, 1) := by decide +kernel
theorem dX4_addHolder_4 : decode cX4_addHolder 4 = .ok (.bipush 24, 2) := by decide +kernel
theorem dX4_addHolder_6 : decode cX4_addHolder 6 = .ok (.invokevirtual 94, 3) := by decide +kernel
theorem dX4_addHolder_9 : decode cX4_addHolder 9 = .ok (.ireturn, 1) := by decide +kernel
theorem dX4_targetOf_0 : decode cX4_targetOf 0 = .ok (.aload_n 0, 1) := by decide +kernel
theorem dX4_targetOf_1 : decode cX4_targetOf 1 = .ok (.iload_n 1, 1) := by decide +kernel
theorem dX4_targetOf_2 : decode cX4_targetOf 2 = .ok (.iload_n 2, 1) := by decide +kernel
theorem dX4_targetOf_3 : decode cX4_targetOf 3 = .ok (.invokevirtual 78, 3) := by decide +kernel
theorem dX4_targetOf_6 : decode cX4_targetOf 6 = .ok (.ifCond .eq 17, 3) := by decide +kernel
theorem dX4_targetOf_9 : decode cX4_targetOf 9 = .ok (.aload_n 0, 1) := by decide +kernel
theorem dX4_targetOf_10 : decode cX4_targetOf 10 = .ok (.getfield 39, 3) := by decide +kernel
theorem dX4_targetOf_13 : decode cX4_targetOf 13 = .ok (.iload_n 1, 1) := by decide +kernel
theorem dX4_targetOf_14 : decode cX4_targetOf 14 = .ok (.bipush 8, 2) := by decide +kernel
theorem dX4_targetOf_16 : decode cX4_targetOf 16 = .ok (.imul, 1) := by decide +kernel
theorem dX4_targetOf_17 : decode cX4_targetOf 17 = .ok (.iload_n 2, 1) := by decide +kernel
theorem dX4_targetOf_18 : decode cX4_targetOf 18 = .ok (.iadd, 1) := by decide +kernel
theorem dX4_targetOf_19 : decode cX4_targetOf 19 = .ok (.iaload, 1) := by decide +kernel
theorem dX4_targetOf_20 : decode cX4_targetOf 20 = .ok (.goto 4, 3) := by decide +kernel
theorem dX4_targetOf_23 : decode cX4_targetOf 23 = .ok (.iconst (-1), 1) := by decide +kernel
theorem dX4_targetOf_24 : decode cX4_targetOf 24 = .ok (.ireturn, 1) := by decide +kernel
theorem dX4_putTarget_0 : decode cX4_putTarget 0 = .ok (.aload_n 0, 1) := by decide +kernel
theorem dX4_putTarget_1 : decode cX4_putTarget 1 = .ok (.iload_n 1, 1) := by decide +kernel
theorem dX4_putTarget_2 : decode cX4_putTarget 2 = .ok (.iload_n 2, 1) := by decide +kernel
theorem dX4_putTarget_3 : decode cX4_putTarget 3 = .ok (.invokevirtual 78, 3) := by decide +kernel
theorem dX4_putTarget_6 : decode cX4_putTarget 6 = .ok (.ifCond .ne 5, 3) := by decide +kernel
theorem dX4_putTarget_9 : decode cX4_putTarget 9 = .ok (.iconst (-1), 1) := by decide +kernel
theorem dX4_putTarget_10 : decode cX4_putTarget 10 = .ok (.ireturn, 1) := by decide +kernel
theorem dX4_putTarget_11 : decode cX4_putTarget 11 = .ok (.aload_n 0, 1) := by decide +kernel
theorem dX4_putTarget_12 : decode cX4_putTarget 12 = .ok (.getfield 39, 3) := by decide +kernel
theorem dX4_putTarget_15 : decode cX4_putTarget 15 = .ok (.iload_n 1, 1) := by decide +kernel
theorem dX4_putTarget_16 : decode cX4_putTarget 16 = .ok (.bipush 8, 2) := by decide +kernel
theorem dX4_putTarget_18 : decode cX4_putTarget 18 = .ok (.imul, 1) := by decide +kernel
theorem dX4_putTarget_19 : decode cX4_putTarget 19 = .ok (.iload_n 2, 1) := by decide +kernel
theorem dX4_putTarget_20 : decode cX4_putTarget 20 = .ok (.iadd, 1) := by decide +kernel
theorem dX4_putTarget_21 : decode cX4_putTarget 21 = .ok (.iaload, 1) := by decide +kernel
theorem dX4_putTarget_22 : decode cX4_putTarget 22 = .ok (.istore 4, 2) := by decide +kernel
theorem dX4_putTarget_24 : decode cX4_putTarget 24 = .ok (.aload_n 0, 1) := by decide +kernel
theorem dX4_putTarget_25 : decode cX4_putTarget 25 = .ok (.getfield 39, 3) := by decide +kernel
theorem dX4_putTarget_28 : decode cX4_putTarget 28 = .ok (.iload_n 1, 1) := by decide +kernel
theorem dX4_putTarget_29 : decode cX4_putTarget 29 = .ok (.bipush 8, 2) := by decide +kernel
theorem dX4_putTarget_31 : decode cX4_putTarget 31 = .ok (.imul, 1) := by decide +kernel
theorem dX4_putTarget_32 : decode cX4_putTarget 32 = .ok (.iload_n 2, 1) := by decide +kernel
theorem dX4_putTarget_33 : decode cX4_putTarget 33 = .ok (.iadd, 1) := by decide +kernel
theorem dX4_putTarget_34 : decode cX4_putTarget 34 = .ok (.iload_n 3, 1) := by decide +kernel
theorem dX4_putTarget_35 : decode cX4_putTarget 35 = .ok (.iastore, 1) := by decide +kernel
theorem dX4_putTarget_36 : decode cX4_putTarget 36 = .ok (.aload_n 0, 1) := by decide +kernel
theorem dX4_putTarget_37 : decode cX4_putTarget 37 = .ok (.dup, 1) := by decide +kernel
theorem dX4_putTarget_38 : decode cX4_putTarget 38 = .ok (.getfield 61, 3) := by decide +kernel
theorem dX4_putTarget_41 : decode cX4_putTarget 41 = .ok (.iconst 1, 1) := by decide +kernel
theorem dX4_putTarget_42 : decode cX4_putTarget 42 = .ok (.iadd, 1) := by decide +kernel
theorem dX4_putTarget_43 : decode cX4_putTarget 43 = .ok (.putfield 61, 3) := by decide +kernel
theorem dX4_putTarget_46 : decode cX4_putTarget 46 = .ok (.iload 4, 2) := by decide +kernel
theorem dX4_putTarget_48 : decode cX4_putTarget 48 = .ok (.ireturn, 1) := by decide +kernel
theorem dX4_putLength_0 : decode cX4_putLength 0 = .ok (.aload_n 0, 1) := by decide +kernel
theorem dX4_putLength_1 : decode cX4_putLength 1 = .ok (.getfield 30, 3) := by decide +kernel
theorem dX4_putLength_4 : decode cX4_putLength 4 = .ok (.iload_n 1, 1) := by decide +kernel
theorem dX4_putLength_5 : decode cX4_putLength 5 = .ok (.iaload, 1) := by decide +kernel
theorem dX4_putLength_6 : decode cX4_putLength 6 = .ok (.istore_n 3, 1) := by decide +kernel
theorem dX4_putLength_7 : decode cX4_putLength 7 = .ok (.aload_n 0, 1) := by decide +kernel
theorem dX4_putLength_8 : decode cX4_putLength 8 = .ok (.getfield 27, 3) := by decide +kernel
theorem dX4_putLength_11 : decode cX4_putLength 11 = .ok (.iload_n 1, 1) := by decide +kernel
theorem dX4_putLength_12 : decode cX4_putLength 12 = .ok (.iload_n 2, 1) := by decide +kernel
theorem dX4_putLength_13 : decode cX4_putLength 13 = .ok (.invokestatic 98, 3) := by decide +kernel
theorem dX4_putLength_16 : decode cX4_putLength 16 = .ok (.iastore, 1) := by decide +kernel
theorem dX4_putLength_17 : decode cX4_putLength 17 = .ok (.aload_n 0, 1) := by decide +kernel
theorem dX4_putLength_18 : decode cX4_putLength 18 = .ok (.getfield 30, 3) := by decide +kernel
theorem dX4_putLength_21 : decode cX4_putLength 21 = .ok (.iload_n 1, 1) := by decide +kernel
theorem dX4_putLength_22 : decode cX4_putLength 22 = .ok (.iload_n 2, 1) := by decide +kernel
theorem dX4_putLength_23 : decode cX4_putLength 23 = .ok (.iastore, 1) := by decide +kernel
theorem dX4_putLength_24 : decode cX4_putLength 24 = .ok (.aload_n 0, 1) := by decide +kernel
theorem dX4_putLength_25 : decode cX4_putLength 25 = .ok (.iload_n 1, 1) := by decide +kernel
theorem dX4_putLength_26 : decode cX4_putLength 26 = .ok (.iload_n 2, 1) := by decide +kernel
theorem dX4_putLength_27 : decode cX4_putLength 27 = .ok (.invokevirtual 104, 3) := by decide +kernel
theorem dX4_putLength_30 : decode cX4_putLength 30 = .ok (.aload_n 0, 1) := by decide +kernel
theorem dX4_putLength_31 : decode cX4_putLength 31 = .ok (.dup, 1) := by decide +kernel
theorem dX4_putLength_32 : decode cX4_putLength 32 = .ok (.getfield 61, 3) := by decide +kernel
theorem dX4_putLength_35 : decode cX4_putLength 35 = .ok (.iconst 1, 1) := by decide +kernel
theorem dX4_putLength_36 : decode cX4_putLength 36 = .ok (.iadd, 1) := by decide +kernel
theorem dX4_putLength_37 : decode cX4_putLength 37 = .ok (.putfield 61, 3) := by decide +kernel
theorem dX4_putLength_40 : decode cX4_putLength 40 = .ok (.iload_n 3, 1) := by decide +kernel
theorem dX4_putLength_41 : decode cX4_putLength 41 = .ok (.ireturn, 1) := by decide +kernel
theorem dX4_putRoots_0 : decode cX4_putRoots 0 = .ok (.aload_n 0, 1) := by decide +kernel
theorem dX4_putRoots_1 : decode cX4_putRoots 1 = .ok (.getfield 36, 3) := by decide +kernel
theorem dX4_putRoots_4 : decode cX4_putRoots 4 = .ok (.iload_n 1, 1) := by decide +kernel
theorem dX4_putRoots_5 : decode cX4_putRoots 5 = .ok (.iload_n 2, 1) := by decide +kernel
theorem dX4_putRoots_6 : decode cX4_putRoots 6 = .ok (.iastore, 1) := by decide +kernel
theorem dX4_putRoots_7 : decode cX4_putRoots 7 = .ok (.aload_n 0, 1) := by decide +kernel
theorem dX4_putRoots_8 : decode cX4_putRoots 8 = .ok (.dup, 1) := by decide +kernel
theorem dX4_putRoots_9 : decode cX4_putRoots 9 = .ok (.getfield 61, 3) := by decide +kernel
theorem dX4_putRoots_12 : decode cX4_putRoots 12 = .ok (.iconst 1, 1) := by decide +kernel
theorem dX4_putRoots_13 : decode cX4_putRoots 13 = .ok (.iadd, 1) := by decide +kernel
theorem dX4_putRoots_14 : decode cX4_putRoots 14 = .ok (.putfield 61, 3) := by decide +kernel
theorem dX4_putRoots_17 : decode cX4_putRoots 17 = .ok (.iload_n 2, 1) := by decide +kernel
theorem dX4_putRoots_18 : decode cX4_putRoots 18 = .ok (.ireturn, 1) := by decide +kernel
theorem dX8_contains_0 : decode cX8_contains 0 = .ok (.iload_n 2, 1) := by decide +kernel
theorem dX8_contains_1 : decode cX8_contains 1 = .ok (.ifCond .lt 23, 3) := by decide +kernel
theorem dX8_contains_4 : decode cX8_contains 4 = .ok (.iload_n 2, 1) := by decide +kernel
theorem dX8_contains_5 : decode cX8_contains 5 = .ok (.bipush 40, 2) := by decide +kernel
theorem dX8_contains_7 : decode cX8_contains 7 = .ok (.if_icmp .ge 17, 3) := by decide +kernel
theorem dX8_contains_10 : decode cX8_contains 10 = .ok (.lload_n 0, 1) := by decide +kernel
theorem dX8_contains_11 : decode cX8_contains 11 = .ok (.iload_n 2, 1) := by decide +kernel
theorem dX8_contains_12 : decode cX8_contains 12 = .ok (.lushr, 1) := by decide +kernel
theorem dX8_contains_13 : decode cX8_contains 13 = .ok (.lconst 1, 1) := by decide +kernel
theorem dX8_contains_14 : decode cX8_contains 14 = .ok (.land, 1) := by decide +kernel
theorem dX8_contains_15 : decode cX8_contains 15 = .ok (.lconst 1, 1) := by decide +kernel
theorem dX8_contains_16 : decode cX8_contains 16 = .ok (.lcmp, 1) := by decide +kernel
theorem dX8_contains_17 : decode cX8_contains 17 = .ok (.ifCond .ne 7, 3) := by decide +kernel
theorem dX8_contains_20 : decode cX8_contains 20 = .ok (.iconst 1, 1) := by decide +kernel
theorem dX8_contains_21 : decode cX8_contains 21 = .ok (.goto 4, 3) := by decide +kernel
theorem dX8_contains_24 : decode cX8_contains 24 = .ok (.iconst 0, 1) := by decide +kernel
theorem dX8_contains_25 : decode cX8_contains 25 = .ok (.ireturn, 1) := by decide +kernel
theorem dX4_sizeOfAll_0 : decode cX4_sizeOfAll 0 = .ok (.iconst 0, 1) := by decide +kernel
theorem dX4_sizeOfAll_1 : decode cX4_sizeOfAll 1 = .ok (.istore_n 3, 1) := by decide +kernel
theorem dX4_sizeOfAll_2 : decode cX4_sizeOfAll 2 = .ok (.iconst 0, 1) := by decide +kernel
theorem dX4_sizeOfAll_3 : decode cX4_sizeOfAll 3 = .ok (.istore 4, 2) := by decide +kernel
theorem dX4_sizeOfAll_5 : decode cX4_sizeOfAll 5 = .ok (.iload 4, 2) := by decide +kernel
theorem dX4_sizeOfAll_7 : decode cX4_sizeOfAll 7 = .ok (.bipush 40, 2) := by decide +kernel
theorem dX4_sizeOfAll_9 : decode cX4_sizeOfAll 9 = .ok (.if_icmp .ge 32, 3) := by decide +kernel
theorem dX4_sizeOfAll_12 : decode cX4_sizeOfAll 12 = .ok (.iload_n 3, 1) := by decide +kernel
theorem dX4_sizeOfAll_13 : decode cX4_sizeOfAll 13 = .ok (.lload_n 1, 1) := by decide +kernel
theorem dX4_sizeOfAll_14 : decode cX4_sizeOfAll 14 = .ok (.iload 4, 2) := by decide +kernel
theorem dX4_sizeOfAll_16 : decode cX4_sizeOfAll 16 = .ok (.invokestatic 118, 3) := by decide +kernel
theorem dX4_sizeOfAll_19 : decode cX4_sizeOfAll 19 = .ok (.ifCond .eq 13, 3) := by decide +kernel
theorem dX4_sizeOfAll_22 : decode cX4_sizeOfAll 22 = .ok (.aload_n 0, 1) := by decide +kernel
theorem dX4_sizeOfAll_23 : decode cX4_sizeOfAll 23 = .ok (.getfield 27, 3) := by decide +kernel
theorem dX4_sizeOfAll_26 : decode cX4_sizeOfAll 26 = .ok (.iload 4, 2) := by decide +kernel
theorem dX4_sizeOfAll_28 : decode cX4_sizeOfAll 28 = .ok (.iaload, 1) := by decide +kernel
theorem dX4_sizeOfAll_29 : decode cX4_sizeOfAll 29 = .ok (.goto 4, 3) := by decide +kernel
theorem dX4_sizeOfAll_32 : decode cX4_sizeOfAll 32 = .ok (.iconst 0, 1) := by decide +kernel
theorem dX4_sizeOfAll_33 : decode cX4_sizeOfAll 33 = .ok (.iadd, 1) := by decide +kernel
theorem dX4_sizeOfAll_34 : decode cX4_sizeOfAll 34 = .ok (.istore_n 3, 1) := by decide +kernel
theorem dX4_sizeOfAll_35 : decode cX4_sizeOfAll 35 = .ok (.iinc 4 1, 3) := by decide +kernel
theorem dX4_sizeOfAll_38 : decode cX4_sizeOfAll 38 = .ok (.goto (-33), 3) := by decide +kernel
theorem dX4_sizeOfAll_41 : decode cX4_sizeOfAll 41 = .ok (.iload_n 3, 1) := by decide +kernel
theorem dX4_sizeOfAll_42 : decode cX4_sizeOfAll 42 = .ok (.ireturn, 1) := by decide +kernel
theorem dX4_grow_0 : decode cX4_grow 0 = .ok (.aload_n 0, 1) := by decide +kernel
theorem dX4_grow_1 : decode cX4_grow 1 = .ok (.getfield 33, 3) := by decide +kernel
theorem dX4_grow_4 : decode cX4_grow 4 = .ok (.iload_n 1, 1) := by decide +kernel
theorem dX4_grow_5 : decode cX4_grow 5 = .ok (.aload_n 0, 1) := by decide +kernel
theorem dX4_grow_6 : decode cX4_grow 6 = .ok (.getfield 33, 3) := by decide +kernel
theorem dX4_grow_9 : decode cX4_grow 9 = .ok (.iload_n 1, 1) := by decide +kernel
theorem dX4_grow_10 : decode cX4_grow 10 = .ok (.iaload, 1) := by decide +kernel
theorem dX4_grow_11 : decode cX4_grow 11 = .ok (.iconst 1, 1) := by decide +kernel
theorem dX4_grow_12 : decode cX4_grow 12 = .ok (.iadd, 1) := by decide +kernel
theorem dX4_grow_13 : decode cX4_grow 13 = .ok (.bipush 99, 2) := by decide +kernel
theorem dX4_grow_15 : decode cX4_grow 15 = .ok (.invokestatic 126, 3) := by decide +kernel
theorem dX4_grow_18 : decode cX4_grow 18 = .ok (.iastore, 1) := by decide +kernel
theorem dX4_grow_19 : decode cX4_grow 19 = .ok (.aload_n 0, 1) := by decide +kernel
theorem dX4_grow_20 : decode cX4_grow 20 = .ok (.getfield 21, 3) := by decide +kernel
theorem dX4_grow_23 : decode cX4_grow 23 = .ok (.iload_n 1, 1) := by decide +kernel
theorem dX4_grow_24 : decode cX4_grow 24 = .ok (.iaload, 1) := by decide +kernel
theorem dX4_grow_25 : decode cX4_grow 25 = .ok (.bipush 11, 2) := by decide +kernel
theorem dX4_grow_27 : decode cX4_grow 27 = .ok (.if_icmp .ne 25, 3) := by decide +kernel
theorem dX4_grow_30 : decode cX4_grow 30 = .ok (.aload_n 0, 1) := by decide +kernel
theorem dX4_grow_31 : decode cX4_grow 31 = .ok (.aload_n 0, 1) := by decide +kernel
theorem dX4_grow_32 : decode cX4_grow 32 = .ok (.getfield 39, 3) := by decide +kernel
theorem dX4_grow_35 : decode cX4_grow 35 = .ok (.iload_n 1, 1) := by decide +kernel
theorem dX4_grow_36 : decode cX4_grow 36 = .ok (.bipush 8, 2) := by decide +kernel
theorem dX4_grow_38 : decode cX4_grow 38 = .ok (.imul, 1) := by decide +kernel
theorem dX4_grow_39 : decode cX4_grow 39 = .ok (.iaload, 1) := by decide +kernel
theorem dX4_grow_40 : decode cX4_grow 40 = .ok (.invokevirtual 68, 3) := by decide +kernel
theorem dX4_grow_43 : decode cX4_grow 43 = .ok (.ifCond .ne 9, 3) := by decide +kernel
theorem dX4_grow_46 : decode cX4_grow 46 = .ok (.aload_n 0, 1) := by decide +kernel
theorem dX4_grow_47 : decode cX4_grow 47 = .ok (.iload_n 1, 1) := by decide +kernel
theorem dX4_grow_48 : decode cX4_grow 48 = .ok (.iconst 0, 1) := by decide +kernel
theorem dX4_grow_49 : decode cX4_grow 49 = .ok (.invokevirtual 104, 3) := by decide +kernel
theorem dX4_grow_52 : decode cX4_grow 52 = .ok (.return_, 1) := by decide +kernel
theorem dX4_removeAllBut_0 : decode cX4_removeAllBut 0 = .ok (.aload_n 0, 1) := by decide +kernel
theorem dX4_removeAllBut_1 : decode cX4_removeAllBut 1 = .ok (.aload_n 0, 1) := by decide +kernel
theorem dX4_removeAllBut_2 : decode cX4_removeAllBut 2 = .ok (.invokevirtual 108, 3) := by decide +kernel
theorem dX4_removeAllBut_5 : decode cX4_removeAllBut 5 = .ok (.lload_n 1, 1) := by decide +kernel
theorem dX4_removeAllBut_6 : decode cX4_removeAllBut 6 = .ok (.ldc2_w 112, 3) := by decide +kernel
theorem dX4_removeAllBut_9 : decode cX4_removeAllBut 9 = .ok (.lxor, 1) := by decide +kernel
theorem dX4_removeAllBut_10 : decode cX4_removeAllBut 10 = .ok (.land, 1) := by decide +kernel
theorem dX4_removeAllBut_11 : decode cX4_removeAllBut 11 = .ok (.invokevirtual 114, 3) := by decide +kernel
theorem dX4_removeAllBut_14 : decode cX4_removeAllBut 14 = .ok (.istore_n 3, 1) := by decide +kernel
theorem dX4_removeAllBut_15 : decode cX4_removeAllBut 15 = .ok (.iconst 0, 1) := by decide +kernel
theorem dX4_removeAllBut_16 : decode cX4_removeAllBut 16 = .ok (.istore 4, 2) := by decide +kernel
theorem dX4_removeAllBut_18 : decode cX4_removeAllBut 18 = .ok (.iload 4, 2) := by decide +kernel
theorem dX4_removeAllBut_20 : decode cX4_removeAllBut 20 = .ok (.bipush 40, 2) := by decide +kernel
theorem dX4_removeAllBut_22 : decode cX4_removeAllBut 22 = .ok (.if_icmp .ge 26, 3) := by decide +kernel
theorem dX4_removeAllBut_25 : decode cX4_removeAllBut 25 = .ok (.lload_n 1, 1) := by decide +kernel
theorem dX4_removeAllBut_26 : decode cX4_removeAllBut 26 = .ok (.iload 4, 2) := by decide +kernel
theorem dX4_removeAllBut_28 : decode cX4_removeAllBut 28 = .ok (.invokestatic 118, 3) := by decide +kernel
theorem dX4_removeAllBut_31 : decode cX4_removeAllBut 31 = .ok (.ifCond .ne 11, 3) := by decide +kernel
theorem dX4_removeAllBut_34 : decode cX4_removeAllBut 34 = .ok (.aload_n 0, 1) := by decide +kernel
theorem dX4_removeAllBut_35 : decode cX4_removeAllBut 35 = .ok (.getfield 21, 3) := by decide +kernel
theorem dX4_removeAllBut_38 : decode cX4_removeAllBut 38 = .ok (.iload 4, 2) := by decide +kernel
theorem dX4_removeAllBut_40 : decode cX4_removeAllBut 40 = .ok (.iconst (-1), 1) := by decide +kernel
theorem dX4_removeAllBut_41 : decode cX4_removeAllBut 41 = .ok (.iastore, 1) := by decide +kernel
theorem dX4_removeAllBut_42 : decode cX4_removeAllBut 42 = .ok (.iinc 4 1, 3) := by decide +kernel
theorem dX4_removeAllBut_45 : decode cX4_removeAllBut 45 = .ok (.goto (-27), 3) := by decide +kernel
theorem dX4_removeAllBut_48 : decode cX4_removeAllBut 48 = .ok (.iconst 0, 1) := by decide +kernel
theorem dX4_removeAllBut_49 : decode cX4_removeAllBut 49 = .ok (.istore 4, 2) := by decide +kernel
theorem dX4_removeAllBut_51 : decode cX4_removeAllBut 51 = .ok (.iload 4, 2) := by decide +kernel
theorem dX4_removeAllBut_53 : decode cX4_removeAllBut 53 = .ok (.bipush 40, 2) := by decide +kernel
theorem dX4_removeAllBut_55 : decode cX4_removeAllBut 55 = .ok (.if_icmp .ge 26, 3) := by decide +kernel
theorem dX4_removeAllBut_58 : decode cX4_removeAllBut 58 = .ok (.aload_n 0, 1) := by decide +kernel
theorem dX4_removeAllBut_59 : decode cX4_removeAllBut 59 = .ok (.getfield 21, 3) := by decide +kernel
theorem dX4_removeAllBut_62 : decode cX4_removeAllBut 62 = .ok (.iload 4, 2) := by decide +kernel
theorem dX4_removeAllBut_64 : decode cX4_removeAllBut 64 = .ok (.iaload, 1) := by decide +kernel
theorem dX4_removeAllBut_65 : decode cX4_removeAllBut 65 = .ok (.iconst (-1), 1) := by decide +kernel
theorem dX4_removeAllBut_66 : decode cX4_removeAllBut 66 = .ok (.if_icmp .eq 9, 3) := by decide +kernel
theorem dX4_removeAllBut_69 : decode cX4_removeAllBut 69 = .ok (.aload_n 0, 1) := by decide +kernel
theorem dX4_removeAllBut_70 : decode cX4_removeAllBut 70 = .ok (.iload 4, 2) := by decide +kernel
theorem dX4_removeAllBut_72 : decode cX4_removeAllBut 72 = .ok (.invokevirtual 122, 3) := by decide +kernel
theorem dX4_removeAllBut_75 : decode cX4_removeAllBut 75 = .ok (.iinc 4 1, 3) := by decide +kernel
theorem dX4_removeAllBut_78 : decode cX4_removeAllBut 78 = .ok (.goto (-27), 3) := by decide +kernel
theorem dX4_removeAllBut_81 : decode cX4_removeAllBut 81 = .ok (.aload_n 0, 1) := by decide +kernel
theorem dX4_removeAllBut_82 : decode cX4_removeAllBut 82 = .ok (.dup, 1) := by decide +kernel
theorem dX4_removeAllBut_83 : decode cX4_removeAllBut 83 = .ok (.getfield 61, 3) := by decide +kernel
theorem dX4_removeAllBut_86 : decode cX4_removeAllBut 86 = .ok (.iconst 1, 1) := by decide +kernel
theorem dX4_removeAllBut_87 : decode cX4_removeAllBut 87 = .ok (.iadd, 1) := by decide +kernel
theorem dX4_removeAllBut_88 : decode cX4_removeAllBut 88 = .ok (.putfield 61, 3) := by decide +kernel
theorem dX4_removeAllBut_91 : decode cX4_removeAllBut 91 = .ok (.iload_n 3, 1) := by decide +kernel
theorem dX4_removeAllBut_92 : decode cX4_removeAllBut 92 = .ok (.ireturn, 1) := by decide +kernel
theorem dX4_countBelow_0 : decode cX4_countBelow 0 = .ok (.iconst 0, 1) := by decide +kernel
theorem dX4_countBelow_1 : decode cX4_countBelow 1 = .ok (.istore_n 2, 1) := by decide +kernel
theorem dX4_countBelow_2 : decode cX4_countBelow 2 = .ok (.iconst 0, 1) := by decide +kernel
theorem dX4_countBelow_3 : decode cX4_countBelow 3 = .ok (.istore_n 3, 1) := by decide +kernel
theorem dX4_countBelow_4 : decode cX4_countBelow 4 = .ok (.iload_n 3, 1) := by decide +kernel
theorem dX4_countBelow_5 : decode cX4_countBelow 5 = .ok (.aload_n 0, 1) := by decide +kernel
theorem dX4_countBelow_6 : decode cX4_countBelow 6 = .ok (.getfield 42, 3) := by decide +kernel
theorem dX4_countBelow_9 : decode cX4_countBelow 9 = .ok (.if_icmp .ge 27, 3) := by decide +kernel
theorem dX4_countBelow_12 : decode cX4_countBelow 12 = .ok (.iload_n 2, 1) := by decide +kernel
theorem dX4_countBelow_13 : decode cX4_countBelow 13 = .ok (.aload_n 0, 1) := by decide +kernel
theorem dX4_countBelow_14 : decode cX4_countBelow 14 = .ok (.getfield 9, 3) := by decide +kernel
theorem dX4_countBelow_17 : decode cX4_countBelow 17 = .ok (.iload_n 3, 1) := by decide +kernel
theorem dX4_countBelow_18 : decode cX4_countBelow 18 = .ok (.iaload, 1) := by decide +kernel
theorem dX4_countBelow_19 : decode cX4_countBelow 19 = .ok (.iload_n 1, 1) := by decide +kernel
theorem dX4_countBelow_20 : decode cX4_countBelow 20 = .ok (.if_icmp .ne 7, 3) := by decide +kernel
theorem dX4_countBelow_23 : decode cX4_countBelow 23 = .ok (.iconst 1, 1) := by decide +kernel
theorem dX4_countBelow_24 : decode cX4_countBelow 24 = .ok (.goto 4, 3) := by decide +kernel
theorem dX4_countBelow_27 : decode cX4_countBelow 27 = .ok (.iconst 0, 1) := by decide +kernel
theorem dX4_countBelow_28 : decode cX4_countBelow 28 = .ok (.iadd, 1) := by decide +kernel
theorem dX4_countBelow_29 : decode cX4_countBelow 29 = .ok (.istore_n 2, 1) := by decide +kernel
theorem dX4_countBelow_30 : decode cX4_countBelow 30 = .ok (.iinc 3 1, 3) := by decide +kernel
theorem dX4_countBelow_33 : decode cX4_countBelow 33 = .ok (.goto (-29), 3) := by decide +kernel
theorem dX4_countBelow_36 : decode cX4_countBelow 36 = .ok (.iload_n 2, 1) := by decide +kernel
theorem dX4_countBelow_37 : decode cX4_countBelow 37 = .ok (.ireturn, 1) := by decide +kernel
theorem dX4_classFact_0 : decode cX4_classFact 0 = .ok (.iload_n 2, 1) := by decide +kernel
theorem dX4_classFact_1 : decode cX4_classFact 1 = .ok (.tableswitch 47 0 2 #[27, 34, 41], 27) := by decide +kernel
theorem dX4_classFact_28 : decode cX4_classFact 28 = .ok (.aload_n 0, 1) := by decide +kernel
theorem dX4_classFact_29 : decode cX4_classFact 29 = .ok (.getfield 9, 3) := by decide +kernel
theorem dX4_classFact_32 : decode cX4_classFact 32 = .ok (.iload_n 1, 1) := by decide +kernel
theorem dX4_classFact_33 : decode cX4_classFact 33 = .ok (.iaload, 1) := by decide +kernel
theorem dX4_classFact_34 : decode cX4_classFact 34 = .ok (.ireturn, 1) := by decide +kernel
theorem dX4_classFact_35 : decode cX4_classFact 35 = .ok (.aload_n 0, 1) := by decide +kernel
theorem dX4_classFact_36 : decode cX4_classFact 36 = .ok (.getfield 15, 3) := by decide +kernel
theorem dX4_classFact_39 : decode cX4_classFact 39 = .ok (.iload_n 1, 1) := by decide +kernel
theorem dX4_classFact_40 : decode cX4_classFact 40 = .ok (.iaload, 1) := by decide +kernel
theorem dX4_classFact_41 : decode cX4_classFact 41 = .ok (.ireturn, 1) := by decide +kernel
theorem dX4_classFact_42 : decode cX4_classFact 42 = .ok (.aload_n 0, 1) := by decide +kernel
theorem dX4_classFact_43 : decode cX4_classFact 43 = .ok (.iload_n 1, 1) := by decide +kernel
theorem dX4_classFact_44 : decode cX4_classFact 44 = .ok (.invokevirtual 90, 3) := by decide +kernel
theorem dX4_classFact_47 : decode cX4_classFact 47 = .ok (.ireturn, 1) := by decide +kernel
theorem dX4_classFact_48 : decode cX4_classFact 48 = .ok (.aload_n 0, 1) := by decide +kernel
theorem dX4_classFact_49 : decode cX4_classFact 49 = .ok (.iload_n 1, 1) := by decide +kernel
theorem dX4_classFact_50 : decode cX4_classFact 50 = .ok (.invokevirtual 131, 3) := by decide +kernel
theorem dX4_classFact_53 : decode cX4_classFact 53 = .ok (.ireturn, 1) := by decide +kernel
theorem dX4_isBelow_0 : decode cX4_isBelow 0 = .ok (.iload_n 1, 1) := by decide +kernel
theorem dX4_isBelow_1 : decode cX4_isBelow 1 = .ok (.istore_n 3, 1) := by decide +kernel
theorem dX4_isBelow_2 : decode cX4_isBelow 2 = .ok (.iconst 0, 1) := by decide +kernel
theorem dX4_isBelow_3 : decode cX4_isBelow 3 = .ok (.istore 4, 2) := by decide +kernel
theorem dX4_isBelow_5 : decode cX4_isBelow 5 = .ok (.iload 4, 2) := by decide +kernel
theorem dX4_isBelow_7 : decode cX4_isBelow 7 = .ok (.bipush 10, 2) := by decide +kernel
theorem dX4_isBelow_9 : decode cX4_isBelow 9 = .ok (.if_icmp .ge 35, 3) := by decide +kernel
theorem dX4_isBelow_12 : decode cX4_isBelow 12 = .ok (.iload_n 3, 1) := by decide +kernel
theorem dX4_isBelow_13 : decode cX4_isBelow 13 = .ok (.ifCond .lt 31, 3) := by decide +kernel
theorem dX4_isBelow_16 : decode cX4_isBelow 16 = .ok (.iload_n 3, 1) := by decide +kernel
theorem dX4_isBelow_17 : decode cX4_isBelow 17 = .ok (.aload_n 0, 1) := by decide +kernel
theorem dX4_isBelow_18 : decode cX4_isBelow 18 = .ok (.getfield 42, 3) := by decide +kernel
theorem dX4_isBelow_21 : decode cX4_isBelow 21 = .ok (.if_icmp .ge 23, 3) := by decide +kernel
theorem dX4_isBelow_24 : decode cX4_isBelow 24 = .ok (.iload_n 3, 1) := by decide +kernel
theorem dX4_isBelow_25 : decode cX4_isBelow 25 = .ok (.iload_n 2, 1) := by decide +kernel
theorem dX4_isBelow_26 : decode cX4_isBelow 26 = .ok (.if_icmp .ne 5, 3) := by decide +kernel
theorem dX4_isBelow_29 : decode cX4_isBelow 29 = .ok (.iconst 1, 1) := by decide +kernel
theorem dX4_isBelow_30 : decode cX4_isBelow 30 = .ok (.ireturn, 1) := by decide +kernel
theorem dX4_isBelow_31 : decode cX4_isBelow 31 = .ok (.aload_n 0, 1) := by decide +kernel
theorem dX4_isBelow_32 : decode cX4_isBelow 32 = .ok (.getfield 9, 3) := by decide +kernel
theorem dX4_isBelow_35 : decode cX4_isBelow 35 = .ok (.iload_n 3, 1) := by decide +kernel
theorem dX4_isBelow_36 : decode cX4_isBelow 36 = .ok (.iaload, 1) := by decide +kernel
theorem dX4_isBelow_37 : decode cX4_isBelow 37 = .ok (.istore_n 3, 1) := by decide +kernel
theorem dX4_isBelow_38 : decode cX4_isBelow 38 = .ok (.iinc 4 1, 3) := by decide +kernel
theorem dX4_isBelow_41 : decode cX4_isBelow 41 = .ok (.goto (-36), 3) := by decide +kernel
theorem dX4_isBelow_44 : decode cX4_isBelow 44 = .ok (.iconst 0, 1) := by decide +kernel
theorem dX4_isBelow_45 : decode cX4_isBelow 45 = .ok (.ireturn, 1) := by decide +kernel
theorem dX4_objectFact_0 : decode cX4_objectFact 0 = .ok (.iload_n 2, 1) := by decide +kernel
theorem dX4_objectFact_1 : decode cX4_objectFact 1 = .ok (.tableswitch 70 0 4 #[35, 42, 49, 56, 63], 35) := by decide +kernel
theorem dX4_objectFact_36 : decode cX4_objectFact 36 = .ok (.aload_n 0, 1) := by decide +kernel
theorem dX4_objectFact_37 : decode cX4_objectFact 37 = .ok (.getfield 21, 3) := by decide +kernel
theorem dX4_objectFact_40 : decode cX4_objectFact 40 = .ok (.iload_n 1, 1) := by decide +kernel
theorem dX4_objectFact_41 : decode cX4_objectFact 41 = .ok (.iaload, 1) := by decide +kernel
theorem dX4_objectFact_42 : decode cX4_objectFact 42 = .ok (.ireturn, 1) := by decide +kernel
theorem dX4_objectFact_43 : decode cX4_objectFact 43 = .ok (.aload_n 0, 1) := by decide +kernel
theorem dX4_objectFact_44 : decode cX4_objectFact 44 = .ok (.getfield 24, 3) := by decide +kernel
theorem dX4_objectFact_47 : decode cX4_objectFact 47 = .ok (.iload_n 1, 1) := by decide +kernel
theorem dX4_objectFact_48 : decode cX4_objectFact 48 = .ok (.iaload, 1) := by decide +kernel
theorem dX4_objectFact_49 : decode cX4_objectFact 49 = .ok (.ireturn, 1) := by decide +kernel
theorem dX4_objectFact_50 : decode cX4_objectFact 50 = .ok (.aload_n 0, 1) := by decide +kernel
theorem dX4_objectFact_51 : decode cX4_objectFact 51 = .ok (.getfield 27, 3) := by decide +kernel
theorem dX4_objectFact_54 : decode cX4_objectFact 54 = .ok (.iload_n 1, 1) := by decide +kernel
theorem dX4_objectFact_55 : decode cX4_objectFact 55 = .ok (.iaload, 1) := by decide +kernel
theorem dX4_objectFact_56 : decode cX4_objectFact 56 = .ok (.ireturn, 1) := by decide +kernel
theorem dX4_objectFact_57 : decode cX4_objectFact 57 = .ok (.aload_n 0, 1) := by decide +kernel
theorem dX4_objectFact_58 : decode cX4_objectFact 58 = .ok (.getfield 33, 3) := by decide +kernel
theorem dX4_objectFact_61 : decode cX4_objectFact 61 = .ok (.iload_n 1, 1) := by decide +kernel
theorem dX4_objectFact_62 : decode cX4_objectFact 62 = .ok (.iaload, 1) := by decide +kernel
theorem dX4_objectFact_63 : decode cX4_objectFact 63 = .ok (.ireturn, 1) := by decide +kernel
theorem dX4_objectFact_64 : decode cX4_objectFact 64 = .ok (.aload_n 0, 1) := by decide +kernel
theorem dX4_objectFact_65 : decode cX4_objectFact 65 = .ok (.getfield 30, 3) := by decide +kernel
theorem dX4_objectFact_68 : decode cX4_objectFact 68 = .ok (.iload_n 1, 1) := by decide +kernel
theorem dX4_objectFact_69 : decode cX4_objectFact 69 = .ok (.iaload, 1) := by decide +kernel
theorem dX4_objectFact_70 : decode cX4_objectFact 70 = .ok (.ireturn, 1) := by decide +kernel
theorem dX4_objectFact_71 : decode cX4_objectFact 71 = .ok (.aload_n 0, 1) := by decide +kernel
theorem dX4_objectFact_72 : decode cX4_objectFact 72 = .ok (.getfield 36, 3) := by decide +kernel
theorem dX4_objectFact_75 : decode cX4_objectFact 75 = .ok (.iload_n 1, 1) := by decide +kernel
theorem dX4_objectFact_76 : decode cX4_objectFact 76 = .ok (.iaload, 1) := by decide +kernel
theorem dX4_objectFact_77 : decode cX4_objectFact 77 = .ok (.ireturn, 1) := by decide +kernel
theorem dX4_writeReferences_0 : decode cX4_writeReferences 0 = .ok (.iconst 0, 1) := by decide +kernel
theorem dX4_writeReferences_1 : decode cX4_writeReferences 1 = .ok (.istore_n 2, 1) := by decide +kernel
theorem dX4_writeReferences_2 : decode cX4_writeReferences 2 = .ok (.iload_n 2, 1) := by decide +kernel
theorem dX4_writeReferences_3 : decode cX4_writeReferences 3 = .ok (.bipush 40, 2) := by decide +kernel
theorem dX4_writeReferences_5 : decode cX4_writeReferences 5 = .ok (.if_icmp .ge 87, 3) := by decide +kernel
theorem dX4_writeReferences_8 : decode cX4_writeReferences 8 = .ok (.aload_n 0, 1) := by decide +kernel
theorem dX4_writeReferences_9 : decode cX4_writeReferences 9 = .ok (.getfield 21, 3) := by decide +kernel
theorem dX4_writeReferences_12 : decode cX4_writeReferences 12 = .ok (.iload_n 2, 1) := by decide +kernel
theorem dX4_writeReferences_13 : decode cX4_writeReferences 13 = .ok (.iaload, 1) := by decide +kernel
theorem dX4_writeReferences_14 : decode cX4_writeReferences 14 = .ok (.iconst (-1), 1) := by decide +kernel
theorem dX4_writeReferences_15 : decode cX4_writeReferences 15 = .ok (.if_icmp .eq 14, 3) := by decide +kernel
theorem dX4_writeReferences_18 : decode cX4_writeReferences 18 = .ok (.aload_n 0, 1) := by decide +kernel
theorem dX4_writeReferences_19 : decode cX4_writeReferences 19 = .ok (.getfield 21, 3) := by decide +kernel
theorem dX4_writeReferences_22 : decode cX4_writeReferences 22 = .ok (.iload_n 2, 1) := by decide +kernel
theorem dX4_writeReferences_23 : decode cX4_writeReferences 23 = .ok (.iaload, 1) := by decide +kernel
theorem dX4_writeReferences_24 : decode cX4_writeReferences 24 = .ok (.bipush 11, 2) := by decide +kernel
theorem dX4_writeReferences_26 : decode cX4_writeReferences 26 = .ok (.if_icmp .ne 7, 3) := by decide +kernel
theorem dX4_writeReferences_29 : decode cX4_writeReferences 29 = .ok (.iconst 0, 1) := by decide +kernel
theorem dX4_writeReferences_30 : decode cX4_writeReferences 30 = .ok (.goto 9, 3) := by decide +kernel
theorem dX4_writeReferences_33 : decode cX4_writeReferences 33 = .ok (.aload_n 0, 1) := by decide +kernel
theorem dX4_writeReferences_34 : decode cX4_writeReferences 34 = .ok (.getfield 30, 3) := by decide +kernel
theorem dX4_writeReferences_37 : decode cX4_writeReferences 37 = .ok (.iload_n 2, 1) := by decide +kernel
theorem dX4_writeReferences_38 : decode cX4_writeReferences 38 = .ok (.iaload, 1) := by decide +kernel
theorem dX4_writeReferences_39 : decode cX4_writeReferences 39 = .ok (.istore_n 3, 1) := by decide +kernel
theorem dX4_writeReferences_40 : decode cX4_writeReferences 40 = .ok (.iconst 0, 1) := by decide +kernel
theorem dX4_writeReferences_41 : decode cX4_writeReferences 41 = .ok (.istore 4, 2) := by decide +kernel
theorem dX4_writeReferences_43 : decode cX4_writeReferences 43 = .ok (.iload 4, 2) := by decide +kernel
theorem dX4_writeReferences_45 : decode cX4_writeReferences 45 = .ok (.bipush 8, 2) := by decide +kernel
theorem dX4_writeReferences_47 : decode cX4_writeReferences 47 = .ok (.if_icmp .ge 39, 3) := by decide +kernel
theorem dX4_writeReferences_50 : decode cX4_writeReferences 50 = .ok (.iload_n 2, 1) := by decide +kernel
theorem dX4_writeReferences_51 : decode cX4_writeReferences 51 = .ok (.bipush 8, 2) := by decide +kernel
theorem dX4_writeReferences_53 : decode cX4_writeReferences 53 = .ok (.imul, 1) := by decide +kernel
theorem dX4_writeReferences_54 : decode cX4_writeReferences 54 = .ok (.iload 4, 2) := by decide +kernel
theorem dX4_writeReferences_56 : decode cX4_writeReferences 56 = .ok (.iadd, 1) := by decide +kernel
theorem dX4_writeReferences_57 : decode cX4_writeReferences 57 = .ok (.istore 5, 2) := by decide +kernel
theorem dX4_writeReferences_59 : decode cX4_writeReferences 59 = .ok (.aload_n 1, 1) := by decide +kernel
theorem dX4_writeReferences_60 : decode cX4_writeReferences 60 = .ok (.iload 5, 2) := by decide +kernel
theorem dX4_writeReferences_62 : decode cX4_writeReferences 62 = .ok (.iload 4, 2) := by decide +kernel
theorem dX4_writeReferences_64 : decode cX4_writeReferences 64 = .ok (.iload_n 3, 1) := by decide +kernel
theorem dX4_writeReferences_65 : decode cX4_writeReferences 65 = .ok (.if_icmp .ge 13, 3) := by decide +kernel
theorem dX4_writeReferences_68 : decode cX4_writeReferences 68 = .ok (.aload_n 0, 1) := by decide +kernel
theorem dX4_writeReferences_69 : decode cX4_writeReferences 69 = .ok (.getfield 39, 3) := by decide +kernel
theorem dX4_writeReferences_72 : decode cX4_writeReferences 72 = .ok (.iload 5, 2) := by decide +kernel
theorem dX4_writeReferences_74 : decode cX4_writeReferences 74 = .ok (.iaload, 1) := by decide +kernel
theorem dX4_writeReferences_75 : decode cX4_writeReferences 75 = .ok (.goto 4, 3) := by decide +kernel
theorem dX4_writeReferences_78 : decode cX4_writeReferences 78 = .ok (.iconst (-1), 1) := by decide +kernel
theorem dX4_writeReferences_79 : decode cX4_writeReferences 79 = .ok (.iastore, 1) := by decide +kernel
theorem dX4_writeReferences_80 : decode cX4_writeReferences 80 = .ok (.iinc 4 1, 3) := by decide +kernel
theorem dX4_writeReferences_83 : decode cX4_writeReferences 83 = .ok (.goto (-40), 3) := by decide +kernel
theorem dX4_writeReferences_86 : decode cX4_writeReferences 86 = .ok (.iinc 2 1, 3) := by decide +kernel
theorem dX4_writeReferences_89 : decode cX4_writeReferences 89 = .ok (.goto (-87), 3) := by decide +kernel
theorem dX4_writeReferences_92 : decode cX4_writeReferences 92 = .ok (.return_, 1) := by decide +kernel
theorem dX4_allRoots_0 : decode cX4_allRoots 0 = .ok (.lconst 0, 1) := by decide +kernel
theorem dX4_allRoots_1 : decode cX4_allRoots 1 = .ok (.lstore_n 1, 1) := by decide +kernel
theorem dX4_allRoots_2 : decode cX4_allRoots 2 = .ok (.iconst 0, 1) := by decide +kernel
theorem dX4_allRoots_3 : decode cX4_allRoots 3 = .ok (.istore_n 3, 1) := by decide +kernel
theorem dX4_allRoots_4 : decode cX4_allRoots 4 = .ok (.iload_n 3, 1) := by decide +kernel
theorem dX4_allRoots_5 : decode cX4_allRoots 5 = .ok (.bipush 40, 2) := by decide +kernel
theorem dX4_allRoots_7 : decode cX4_allRoots 7 = .ok (.if_icmp .ge 39, 3) := by decide +kernel
theorem dX4_allRoots_10 : decode cX4_allRoots 10 = .ok (.lload_n 1, 1) := by decide +kernel
theorem dX4_allRoots_11 : decode cX4_allRoots 11 = .ok (.aload_n 0, 1) := by decide +kernel
theorem dX4_allRoots_12 : decode cX4_allRoots 12 = .ok (.getfield 21, 3) := by decide +kernel
theorem dX4_allRoots_15 : decode cX4_allRoots 15 = .ok (.iload_n 3, 1) := by decide +kernel
theorem dX4_allRoots_16 : decode cX4_allRoots 16 = .ok (.iaload, 1) := by decide +kernel
theorem dX4_allRoots_17 : decode cX4_allRoots 17 = .ok (.iconst (-1), 1) := by decide +kernel
theorem dX4_allRoots_18 : decode cX4_allRoots 18 = .ok (.if_icmp .eq 19, 3) := by decide +kernel
theorem dX4_allRoots_21 : decode cX4_allRoots 21 = .ok (.aload_n 0, 1) := by decide +kernel
theorem dX4_allRoots_22 : decode cX4_allRoots 22 = .ok (.getfield 36, 3) := by decide +kernel
theorem dX4_allRoots_25 : decode cX4_allRoots 25 = .ok (.iload_n 3, 1) := by decide +kernel
theorem dX4_allRoots_26 : decode cX4_allRoots 26 = .ok (.iaload, 1) := by decide +kernel
theorem dX4_allRoots_27 : decode cX4_allRoots 27 = .ok (.ifCond .eq 10, 3) := by decide +kernel
theorem dX4_allRoots_30 : decode cX4_allRoots 30 = .ok (.iload_n 3, 1) := by decide +kernel
theorem dX4_allRoots_31 : decode cX4_allRoots 31 = .ok (.invokestatic 137, 3) := by decide +kernel
theorem dX4_allRoots_34 : decode cX4_allRoots 34 = .ok (.goto 4, 3) := by decide +kernel
theorem dX4_allRoots_37 : decode cX4_allRoots 37 = .ok (.lconst 0, 1) := by decide +kernel
theorem dX4_allRoots_38 : decode cX4_allRoots 38 = .ok (.lor, 1) := by decide +kernel
theorem dX4_allRoots_39 : decode cX4_allRoots 39 = .ok (.lstore_n 1, 1) := by decide +kernel
theorem dX4_allRoots_40 : decode cX4_allRoots 40 = .ok (.iinc 3 1, 3) := by decide +kernel
theorem dX4_allRoots_43 : decode cX4_allRoots 43 = .ok (.goto (-39), 3) := by decide +kernel
theorem dX4_allRoots_46 : decode cX4_allRoots 46 = .ok (.lload_n 1, 1) := by decide +kernel
theorem dX4_allRoots_47 : decode cX4_allRoots 47 = .ok (.lreturn, 1) := by decide +kernel
theorem dX4_membersOf_0 : decode cX4_membersOf 0 = .ok (.lconst 0, 1) := by decide +kernel
theorem dX4_membersOf_1 : decode cX4_membersOf 1 = .ok (.lstore_n 3, 1) := by decide +kernel
theorem dX4_membersOf_2 : decode cX4_membersOf 2 = .ok (.iconst 0, 1) := by decide +kernel
theorem dX4_membersOf_3 : decode cX4_membersOf 3 = .ok (.istore 5, 2) := by decide +kernel
theorem dX4_membersOf_5 : decode cX4_membersOf 5 = .ok (.iload 5, 2) := by decide +kernel
theorem dX4_membersOf_7 : decode cX4_membersOf 7 = .ok (.bipush 40, 2) := by decide +kernel
theorem dX4_membersOf_9 : decode cX4_membersOf 9 = .ok (.if_icmp .ge 63, 3) := by decide +kernel
theorem dX4_membersOf_12 : decode cX4_membersOf 12 = .ok (.aload_n 0, 1) := by decide +kernel
theorem dX4_membersOf_13 : decode cX4_membersOf 13 = .ok (.getfield 21, 3) := by decide +kernel
theorem dX4_membersOf_16 : decode cX4_membersOf 16 = .ok (.iload 5, 2) := by decide +kernel
theorem dX4_membersOf_18 : decode cX4_membersOf 18 = .ok (.iaload, 1) := by decide +kernel
theorem dX4_membersOf_19 : decode cX4_membersOf 19 = .ok (.iload_n 1, 1) := by decide +kernel
theorem dX4_membersOf_20 : decode cX4_membersOf 20 = .ok (.if_icmp .eq 22, 3) := by decide +kernel
theorem dX4_membersOf_23 : decode cX4_membersOf 23 = .ok (.iload_n 2, 1) := by decide +kernel
theorem dX4_membersOf_24 : decode cX4_membersOf 24 = .ok (.ifCond .eq 22, 3) := by decide +kernel
theorem dX4_membersOf_27 : decode cX4_membersOf 27 = .ok (.aload_n 0, 1) := by decide +kernel
theorem dX4_membersOf_28 : decode cX4_membersOf 28 = .ok (.aload_n 0, 1) := by decide +kernel
theorem dX4_membersOf_29 : decode cX4_membersOf 29 = .ok (.getfield 21, 3) := by decide +kernel
theorem dX4_membersOf_32 : decode cX4_membersOf 32 = .ok (.iload 5, 2) := by decide +kernel
theorem dX4_membersOf_34 : decode cX4_membersOf 34 = .ok (.iaload, 1) := by decide +kernel
theorem dX4_membersOf_35 : decode cX4_membersOf 35 = .ok (.iload_n 1, 1) := by decide +kernel
theorem dX4_membersOf_36 : decode cX4_membersOf 36 = .ok (.invokevirtual 146, 3) := by decide +kernel
theorem dX4_membersOf_39 : decode cX4_membersOf 39 = .ok (.ifCond .eq 7, 3) := by decide +kernel
theorem dX4_membersOf_42 : decode cX4_membersOf 42 = .ok (.iconst 1, 1) := by decide +kernel
theorem dX4_membersOf_43 : decode cX4_membersOf 43 = .ok (.goto 4, 3) := by decide +kernel
theorem dX4_membersOf_46 : decode cX4_membersOf 46 = .ok (.iconst 0, 1) := by decide +kernel
theorem dX4_membersOf_47 : decode cX4_membersOf 47 = .ok (.istore 6, 2) := by decide +kernel
theorem dX4_membersOf_49 : decode cX4_membersOf 49 = .ok (.lload_n 3, 1) := by decide +kernel
theorem dX4_membersOf_50 : decode cX4_membersOf 50 = .ok (.iload 6, 2) := by decide +kernel
theorem dX4_membersOf_52 : decode cX4_membersOf 52 = .ok (.ifCond .eq 11, 3) := by decide +kernel
theorem dX4_membersOf_55 : decode cX4_membersOf 55 = .ok (.iload 5, 2) := by decide +kernel
theorem dX4_membersOf_57 : decode cX4_membersOf 57 = .ok (.invokestatic 137, 3) := by decide +kernel
theorem dX4_membersOf_60 : decode cX4_membersOf 60 = .ok (.goto 4, 3) := by decide +kernel
theorem dX4_membersOf_63 : decode cX4_membersOf 63 = .ok (.lconst 0, 1) := by decide +kernel
theorem dX4_membersOf_64 : decode cX4_membersOf 64 = .ok (.lor, 1) := by decide +kernel
theorem dX4_membersOf_65 : decode cX4_membersOf 65 = .ok (.lstore_n 3, 1) := by decide +kernel
theorem dX4_membersOf_66 : decode cX4_membersOf 66 = .ok (.iinc 5 1, 3) := by decide +kernel
theorem dX4_membersOf_69 : decode cX4_membersOf 69 = .ok (.goto (-64), 3) := by decide +kernel
theorem dX4_membersOf_72 : decode cX4_membersOf 72 = .ok (.lload_n 3, 1) := by decide +kernel
theorem dX4_membersOf_73 : decode cX4_membersOf 73 = .ok (.lreturn, 1) := by decide +kernel
theorem dX4_objectWithSerial_0 : decode cX4_objectWithSerial 0 = .ok (.iconst 0, 1) := by decide +kernel
theorem dX4_objectWithSerial_1 : decode cX4_objectWithSerial 1 = .ok (.istore_n 2, 1) := by decide +kernel
theorem dX4_objectWithSerial_2 : decode cX4_objectWithSerial 2 = .ok (.iload_n 2, 1) := by decide +kernel
theorem dX4_objectWithSerial_3 : decode cX4_objectWithSerial 3 = .ok (.bipush 40, 2) := by decide +kernel
theorem dX4_objectWithSerial_5 : decode cX4_objectWithSerial 5 = .ok (.if_icmp .ge 31, 3) := by decide +kernel
theorem dX4_objectWithSerial_8 : decode cX4_objectWithSerial 8 = .ok (.aload_n 0, 1) := by decide +kernel
theorem dX4_objectWithSerial_9 : decode cX4_objectWithSerial 9 = .ok (.getfield 21, 3) := by decide +kernel
theorem dX4_objectWithSerial_12 : decode cX4_objectWithSerial 12 = .ok (.iload_n 2, 1) := by decide +kernel
theorem dX4_objectWithSerial_13 : decode cX4_objectWithSerial 13 = .ok (.iaload, 1) := by decide +kernel
theorem dX4_objectWithSerial_14 : decode cX4_objectWithSerial 14 = .ok (.iconst (-1), 1) := by decide +kernel
theorem dX4_objectWithSerial_15 : decode cX4_objectWithSerial 15 = .ok (.if_icmp .eq 15, 3) := by decide +kernel
theorem dX4_objectWithSerial_18 : decode cX4_objectWithSerial 18 = .ok (.aload_n 0, 1) := by decide +kernel
theorem dX4_objectWithSerial_19 : decode cX4_objectWithSerial 19 = .ok (.getfield 24, 3) := by decide +kernel
theorem dX4_objectWithSerial_22 : decode cX4_objectWithSerial 22 = .ok (.iload_n 2, 1) := by decide +kernel
theorem dX4_objectWithSerial_23 : decode cX4_objectWithSerial 23 = .ok (.iaload, 1) := by decide +kernel
theorem dX4_objectWithSerial_24 : decode cX4_objectWithSerial 24 = .ok (.iload_n 1, 1) := by decide +kernel
theorem dX4_objectWithSerial_25 : decode cX4_objectWithSerial 25 = .ok (.if_icmp .ne 5, 3) := by decide +kernel
theorem dX4_objectWithSerial_28 : decode cX4_objectWithSerial 28 = .ok (.iload_n 2, 1) := by decide +kernel
theorem dX4_objectWithSerial_29 : decode cX4_objectWithSerial 29 = .ok (.ireturn, 1) := by decide +kernel
theorem dX4_objectWithSerial_30 : decode cX4_objectWithSerial 30 = .ok (.iinc 2 1, 3) := by decide +kernel
theorem dX4_objectWithSerial_33 : decode cX4_objectWithSerial 33 = .ok (.goto (-31), 3) := by decide +kernel
theorem dX4_objectWithSerial_36 : decode cX4_objectWithSerial 36 = .ok (.iconst (-1), 1) := by decide +kernel
theorem dX4_objectWithSerial_37 : decode cX4_objectWithSerial 37 = .ok (.ireturn, 1) := by decide +kernel
theorem dX4_countNotIn_0 : decode cX4_countNotIn 0 = .ok (.iconst 0, 1) := by decide +kernel
theorem dX4_countNotIn_1 : decode cX4_countNotIn 1 = .ok (.istore_n 2, 1) := by decide +kernel
theorem dX4_countNotIn_2 : decode cX4_countNotIn 2 = .ok (.iconst 0, 1) := by decide +kernel
theorem dX4_countNotIn_3 : decode cX4_countNotIn 3 = .ok (.istore_n 3, 1) := by decide +kernel
theorem dX4_countNotIn_4 : decode cX4_countNotIn 4 = .ok (.iload_n 3, 1) := by decide +kernel
theorem dX4_countNotIn_5 : decode cX4_countNotIn 5 = .ok (.bipush 40, 2) := by decide +kernel
theorem dX4_countNotIn_7 : decode cX4_countNotIn 7 = .ok (.if_icmp .ge 53, 3) := by decide +kernel
theorem dX4_countNotIn_10 : decode cX4_countNotIn 10 = .ok (.aload_n 0, 1) := by decide +kernel
theorem dX4_countNotIn_11 : decode cX4_countNotIn 11 = .ok (.getfield 21, 3) := by decide +kernel
theorem dX4_countNotIn_14 : decode cX4_countNotIn 14 = .ok (.iload_n 3, 1) := by decide +kernel
theorem dX4_countNotIn_15 : decode cX4_countNotIn 15 = .ok (.iaload, 1) := by decide +kernel
theorem dX4_countNotIn_16 : decode cX4_countNotIn 16 = .ok (.iconst (-1), 1) := by decide +kernel
theorem dX4_countNotIn_17 : decode cX4_countNotIn 17 = .ok (.if_icmp .eq 21, 3) := by decide +kernel
theorem dX4_countNotIn_20 : decode cX4_countNotIn 20 = .ok (.aload_n 1, 1) := by decide +kernel
theorem dX4_countNotIn_21 : decode cX4_countNotIn 21 = .ok (.aload_n 0, 1) := by decide +kernel
theorem dX4_countNotIn_22 : decode cX4_countNotIn 22 = .ok (.getfield 24, 3) := by decide +kernel
theorem dX4_countNotIn_25 : decode cX4_countNotIn 25 = .ok (.iload_n 3, 1) := by decide +kernel
theorem dX4_countNotIn_26 : decode cX4_countNotIn 26 = .ok (.iaload, 1) := by decide +kernel
theorem dX4_countNotIn_27 : decode cX4_countNotIn 27 = .ok (.invokevirtual 149, 3) := by decide +kernel
theorem dX4_countNotIn_30 : decode cX4_countNotIn 30 = .ok (.iconst (-1), 1) := by decide +kernel
theorem dX4_countNotIn_31 : decode cX4_countNotIn 31 = .ok (.if_icmp .ne 7, 3) := by decide +kernel
theorem dX4_countNotIn_34 : decode cX4_countNotIn 34 = .ok (.iconst 1, 1) := by decide +kernel
theorem dX4_countNotIn_35 : decode cX4_countNotIn 35 = .ok (.goto 4, 3) := by decide +kernel
theorem dX4_countNotIn_38 : decode cX4_countNotIn 38 = .ok (.iconst 0, 1) := by decide +kernel
theorem dX4_countNotIn_39 : decode cX4_countNotIn 39 = .ok (.istore 4, 2) := by decide +kernel
theorem dX4_countNotIn_41 : decode cX4_countNotIn 41 = .ok (.iload_n 2, 1) := by decide +kernel
theorem dX4_countNotIn_42 : decode cX4_countNotIn 42 = .ok (.iload 4, 2) := by decide +kernel
theorem dX4_countNotIn_44 : decode cX4_countNotIn 44 = .ok (.ifCond .eq 7, 3) := by decide +kernel
theorem dX4_countNotIn_47 : decode cX4_countNotIn 47 = .ok (.iconst 1, 1) := by decide +kernel
theorem dX4_countNotIn_48 : decode cX4_countNotIn 48 = .ok (.goto 4, 3) := by decide +kernel
theorem dX4_countNotIn_51 : decode cX4_countNotIn 51 = .ok (.iconst 0, 1) := by decide +kernel
theorem dX4_countNotIn_52 : decode cX4_countNotIn 52 = .ok (.iadd, 1) := by decide +kernel
theorem dX4_countNotIn_53 : decode cX4_countNotIn 53 = .ok (.istore_n 2, 1) := by decide +kernel
theorem dX4_countNotIn_54 : decode cX4_countNotIn 54 = .ok (.iinc 3 1, 3) := by decide +kernel
theorem dX4_countNotIn_57 : decode cX4_countNotIn 57 = .ok (.goto (-53), 3) := by decide +kernel
theorem dX4_countNotIn_60 : decode cX4_countNotIn 60 = .ok (.iload_n 2, 1) := by decide +kernel
theorem dX4_countNotIn_61 : decode cX4_countNotIn 61 = .ok (.ireturn, 1) := by decide +kernel
theorem dX4_serialIn_0 : decode cX4_serialIn 0 = .ok (.aload_n 0, 1) := by decide +kernel
theorem dX4_serialIn_1 : decode cX4_serialIn 1 = .ok (.iload_n 1, 1) := by decide +kernel
theorem dX4_serialIn_2 : decode cX4_serialIn 2 = .ok (.iload_n 2, 1) := by decide +kernel
theorem dX4_serialIn_3 : decode cX4_serialIn 3 = .ok (.invokevirtual 159, 3) := by decide +kernel
theorem dX4_serialIn_6 : decode cX4_serialIn 6 = .ok (.istore_n 3, 1) := by decide +kernel
theorem dX4_serialIn_7 : decode cX4_serialIn 7 = .ok (.aload_n 0, 1) := by decide +kernel
theorem dX4_serialIn_8 : decode cX4_serialIn 8 = .ok (.iload_n 3, 1) := by decide +kernel
theorem dX4_serialIn_9 : decode cX4_serialIn 9 = .ok (.invokevirtual 68, 3) := by decide +kernel
theorem dX4_serialIn_12 : decode cX4_serialIn 12 = .ok (.ifCond .eq 12, 3) := by decide +kernel
theorem dX4_serialIn_15 : decode cX4_serialIn 15 = .ok (.aload_n 0, 1) := by decide +kernel
theorem dX4_serialIn_16 : decode cX4_serialIn 16 = .ok (.getfield 24, 3) := by decide +kernel
theorem dX4_serialIn_19 : decode cX4_serialIn 19 = .ok (.iload_n 3, 1) := by decide +kernel
theorem dX4_serialIn_20 : decode cX4_serialIn 20 = .ok (.iaload, 1) := by decide +kernel
theorem dX4_serialIn_21 : decode cX4_serialIn 21 = .ok (.goto 4, 3) := by decide +kernel
theorem dX4_serialIn_24 : decode cX4_serialIn 24 = .ok (.iconst (-1), 1) := by decide +kernel
theorem dX4_serialIn_25 : decode cX4_serialIn 25 = .ok (.ireturn, 1) := by decide +kernel
theorem dX4_differs_0 : decode cX4_differs 0 = .ok (.aload_n 0, 1) := by decide +kernel
theorem dX4_differs_1 : decode cX4_differs 1 = .ok (.getfield 36, 3) := by decide +kernel
theorem dX4_differs_4 : decode cX4_differs 4 = .ok (.iload_n 1, 1) := by decide +kernel
theorem dX4_differs_5 : decode cX4_differs 5 = .ok (.iaload, 1) := by decide +kernel
theorem dX4_differs_6 : decode cX4_differs 6 = .ok (.aload_n 2, 1) := by decide +kernel
theorem dX4_differs_7 : decode cX4_differs 7 = .ok (.getfield 36, 3) := by decide +kernel
theorem dX4_differs_10 : decode cX4_differs 10 = .ok (.iload_n 3, 1) := by decide +kernel
theorem dX4_differs_11 : decode cX4_differs 11 = .ok (.iaload, 1) := by decide +kernel
theorem dX4_differs_12 : decode cX4_differs 12 = .ok (.if_icmp .ne 18, 3) := by decide +kernel
theorem dX4_differs_15 : decode cX4_differs 15 = .ok (.aload_n 0, 1) := by decide +kernel
theorem dX4_differs_16 : decode cX4_differs 16 = .ok (.getfield 30, 3) := by decide +kernel
theorem dX4_differs_19 : decode cX4_differs 19 = .ok (.iload_n 1, 1) := by decide +kernel
theorem dX4_differs_20 : decode cX4_differs 20 = .ok (.iaload, 1) := by decide +kernel
theorem dX4_differs_21 : decode cX4_differs 21 = .ok (.aload_n 2, 1) := by decide +kernel
theorem dX4_differs_22 : decode cX4_differs 22 = .ok (.getfield 30, 3) := by decide +kernel
theorem dX4_differs_25 : decode cX4_differs 25 = .ok (.iload_n 3, 1) := by decide +kernel
theorem dX4_differs_26 : decode cX4_differs 26 = .ok (.iaload, 1) := by decide +kernel
theorem dX4_differs_27 : decode cX4_differs 27 = .ok (.if_icmp .eq 5, 3) := by decide +kernel
theorem dX4_differs_30 : decode cX4_differs 30 = .ok (.iconst 1, 1) := by decide +kernel
theorem dX4_differs_31 : decode cX4_differs 31 = .ok (.ireturn, 1) := by decide +kernel
theorem dX4_differs_32 : decode cX4_differs 32 = .ok (.iconst 0, 1) := by decide +kernel
theorem dX4_differs_33 : decode cX4_differs 33 = .ok (.istore 4, 2) := by decide +kernel
theorem dX4_differs_35 : decode cX4_differs 35 = .ok (.iload 4, 2) := by decide +kernel
theorem dX4_differs_37 : decode cX4_differs 37 = .ok (.bipush 8, 2) := by decide +kernel
theorem dX4_differs_39 : decode cX4_differs 39 = .ok (.if_icmp .ge 28, 3) := by decide +kernel
theorem dX4_differs_42 : decode cX4_differs 42 = .ok (.aload_n 0, 1) := by decide +kernel
theorem dX4_differs_43 : decode cX4_differs 43 = .ok (.iload_n 1, 1) := by decide +kernel
theorem dX4_differs_44 : decode cX4_differs 44 = .ok (.iload 4, 2) := by decide +kernel
theorem dX4_differs_46 : decode cX4_differs 46 = .ok (.invokevirtual 156, 3) := by decide +kernel
theorem dX4_differs_49 : decode cX4_differs 49 = .ok (.aload_n 2, 1) := by decide +kernel
theorem dX4_differs_50 : decode cX4_differs 50 = .ok (.iload_n 3, 1) := by decide +kernel
theorem dX4_differs_51 : decode cX4_differs 51 = .ok (.iload 4, 2) := by decide +kernel
theorem dX4_differs_53 : decode cX4_differs 53 = .ok (.invokevirtual 156, 3) := by decide +kernel
theorem dX4_differs_56 : decode cX4_differs 56 = .ok (.if_icmp .eq 5, 3) := by decide +kernel
theorem dX4_differs_59 : decode cX4_differs 59 = .ok (.iconst 1, 1) := by decide +kernel
theorem dX4_differs_60 : decode cX4_differs 60 = .ok (.ireturn, 1) := by decide +kernel
theorem dX4_differs_61 : decode cX4_differs 61 = .ok (.iinc 4 1, 3) := by decide +kernel
theorem dX4_differs_64 : decode cX4_differs 64 = .ok (.goto (-29), 3) := by decide +kernel
theorem dX4_differs_67 : decode cX4_differs 67 = .ok (.iconst 0, 1) := by decide +kernel
theorem dX4_differs_68 : decode cX4_differs 68 = .ok (.ireturn, 1) := by decide +kernel
theorem dX4_countChangedSince_0 : decode cX4_countChangedSince 0 = .ok (.iconst 0, 1) := by decide +kernel
theorem dX4_countChangedSince_1 : decode cX4_countChangedSince 1 = .ok (.istore_n 2, 1) := by decide +kernel
theorem dX4_countChangedSince_2 : decode cX4_countChangedSince 2 = .ok (.iconst 0, 1) := by decide +kernel
theorem dX4_countChangedSince_3 : decode cX4_countChangedSince 3 = .ok (.istore_n 3, 1) := by decide +kernel
theorem dX4_countChangedSince_4 : decode cX4_countChangedSince 4 = .ok (.iload_n 3, 1) := by decide +kernel
theorem dX4_countChangedSince_5 : decode cX4_countChangedSince 5 = .ok (.bipush 40, 2) := by decide +kernel
theorem dX4_countChangedSince_7 : decode cX4_countChangedSince 7 = .ok (.if_icmp .ge 60, 3) := by decide +kernel
theorem dX4_countChangedSince_10 : decode cX4_countChangedSince 10 = .ok (.aload_n 0, 1) := by decide +kernel
theorem dX4_countChangedSince_11 : decode cX4_countChangedSince 11 = .ok (.getfield 21, 3) := by decide +kernel
theorem dX4_countChangedSince_14 : decode cX4_countChangedSince 14 = .ok (.iload_n 3, 1) := by decide +kernel
theorem dX4_countChangedSince_15 : decode cX4_countChangedSince 15 = .ok (.iaload, 1) := by decide +kernel
theorem dX4_countChangedSince_16 : decode cX4_countChangedSince 16 = .ok (.iconst (-1), 1) := by decide +kernel
theorem dX4_countChangedSince_17 : decode cX4_countChangedSince 17 = .ok (.if_icmp .ne 7, 3) := by decide +kernel
theorem dX4_countChangedSince_20 : decode cX4_countChangedSince 20 = .ok (.iconst (-1), 1) := by decide +kernel
theorem dX4_countChangedSince_21 : decode cX4_countChangedSince 21 = .ok (.goto 13, 3) := by decide +kernel
theorem dX4_countChangedSince_24 : decode cX4_countChangedSince 24 = .ok (.aload_n 1, 1) := by decide +kernel
theorem dX4_countChangedSince_25 : decode cX4_countChangedSince 25 = .ok (.aload_n 0, 1) := by decide +kernel
theorem dX4_countChangedSince_26 : decode cX4_countChangedSince 26 = .ok (.getfield 24, 3) := by decide +kernel
theorem dX4_countChangedSince_29 : decode cX4_countChangedSince 29 = .ok (.iload_n 3, 1) := by decide +kernel
theorem dX4_countChangedSince_30 : decode cX4_countChangedSince 30 = .ok (.iaload, 1) := by decide +kernel
theorem dX4_countChangedSince_31 : decode cX4_countChangedSince 31 = .ok (.invokevirtual 149, 3) := by decide +kernel
theorem dX4_countChangedSince_34 : decode cX4_countChangedSince 34 = .ok (.istore 4, 2) := by decide +kernel
theorem dX4_countChangedSince_36 : decode cX4_countChangedSince 36 = .ok (.iload_n 2, 1) := by decide +kernel
theorem dX4_countChangedSince_37 : decode cX4_countChangedSince 37 = .ok (.iload 4, 2) := by decide +kernel
theorem dX4_countChangedSince_39 : decode cX4_countChangedSince 39 = .ok (.iconst (-1), 1) := by decide +kernel
theorem dX4_countChangedSince_40 : decode cX4_countChangedSince 40 = .ok (.if_icmp .eq 18, 3) := by decide +kernel
theorem dX4_countChangedSince_43 : decode cX4_countChangedSince 43 = .ok (.aload_n 0, 1) := by decide +kernel
theorem dX4_countChangedSince_44 : decode cX4_countChangedSince 44 = .ok (.iload_n 3, 1) := by decide +kernel
theorem dX4_countChangedSince_45 : decode cX4_countChangedSince 45 = .ok (.aload_n 1, 1) := by decide +kernel
theorem dX4_countChangedSince_46 : decode cX4_countChangedSince 46 = .ok (.iload 4, 2) := by decide +kernel
theorem dX4_countChangedSince_48 : decode cX4_countChangedSince 48 = .ok (.invokevirtual 152, 3) := by decide +kernel
theorem dX4_countChangedSince_51 : decode cX4_countChangedSince 51 = .ok (.ifCond .eq 7, 3) := by decide +kernel
theorem dX4_countChangedSince_54 : decode cX4_countChangedSince 54 = .ok (.iconst 1, 1) := by decide +kernel
theorem dX4_countChangedSince_55 : decode cX4_countChangedSince 55 = .ok (.goto 4, 3) := by decide +kernel
theorem dX4_countChangedSince_58 : decode cX4_countChangedSince 58 = .ok (.iconst 0, 1) := by decide +kernel
theorem dX4_countChangedSince_59 : decode cX4_countChangedSince 59 = .ok (.iadd, 1) := by decide +kernel
theorem dX4_countChangedSince_60 : decode cX4_countChangedSince 60 = .ok (.istore_n 2, 1) := by decide +kernel
theorem dX4_countChangedSince_61 : decode cX4_countChangedSince 61 = .ok (.iinc 3 1, 3) := by decide +kernel
theorem dX4_countChangedSince_64 : decode cX4_countChangedSince 64 = .ok (.goto (-60), 3) := by decide +kernel
theorem dX4_countChangedSince_67 : decode cX4_countChangedSince 67 = .ok (.iload_n 2, 1) := by decide +kernel
theorem dX4_countChangedSince_68 : decode cX4_countChangedSince 68 = .ok (.ireturn, 1) := by decide +kernel
theorem wd_42 : (Jvm.Cond.methodLink "HeapBrowser$Heap" (3 : Nat) ({ cls := "java/lang/Object", name := "<init>", desc := "()V" } : Jvm.MethodName)) ∈ hb_wl := hb_w 42 (by decide +kernel) (by decide +kernel)
theorem wd_96 : (Jvm.Cond.arrayClass Jvm.ClassFile.FieldType.int) ∈ hb_wl := hb_w 96 (by decide +kernel) (by decide +kernel)
theorem lpX4_init_9 : hb_lkP yX4_init 9 4 1 := ⟨RX4, TX4, 13, rfl, by decide, rfl, Or.inr ⟨rfl, rfl, rfl, hb_w 49 (by decide +kernel) (by decide +kernel)⟩⟩
theorem lpX4_init_15 : hb_lkP yX4_init 15 4 2 := ⟨RX4, TX4, 13, rfl, by decide, rfl, Or.inr ⟨rfl, rfl, rfl, hb_w 50 (by decide +kernel) (by decide +kernel)⟩⟩
theorem lpX4_init_18 : hb_lkP yX4_init 18 4 3 := ⟨RX4, TX4, 13, rfl, by decide, rfl, Or.inr ⟨rfl, rfl, rfl, hb_w 51 (by decide +kernel) (by decide +kernel)⟩⟩
theorem lpX4_init_21 : hb_lkP yX4_init 21 4 4 := ⟨RX4, TX4, 13, rfl, by decide, rfl, Or.inr ⟨rfl, rfl, rfl, hb_w 52 (by decide +kernel) (by decide +kernel)⟩⟩
theorem lpX4_init_24 : hb_lkP yX4_init 24 4 5 := ⟨RX4, TX4, 13, rfl, by decide, rfl, Or.inr ⟨rfl, rfl, rfl, hb_w 55 (by decide +kernel) (by decide +kernel)⟩⟩
theorem lpX4_init_27 : hb_lkP yX4_init 27 4 6 := ⟨RX4, TX4, 13, rfl, by decide, rfl, Or.inr ⟨rfl, rfl, rfl, hb_w 56 (by decide +kernel) (by decide +kernel)⟩⟩
theorem lpX4_init_30 : hb_lkP yX4_init 30 4 7 := ⟨RX4, TX4, 13, rfl, by decide, rfl, Or.inr ⟨rfl, rfl, rfl, hb_w 58 (by decide +kernel) (by decide +kernel)⟩⟩
theorem lpX4_init_33 : hb_lkP yX4_init 33 4 8 := ⟨RX4, TX4, 13, rfl, by decide, rfl, Or.inr ⟨rfl, rfl, rfl, hb_w 60 (by decide +kernel) (by decide +kernel)⟩⟩
theorem lpX4_init_36 : hb_lkP yX4_init 36 4 9 := ⟨RX4, TX4, 13, rfl, by decide, rfl, Or.inr ⟨rfl, rfl, rfl, hb_w 62 (by decide +kernel) (by decide +kernel)⟩⟩
theorem lpX4_init_39 : hb_lkP yX4_init 39 4 10 := ⟨RX4, TX4, 13, rfl, by decide, rfl, Or.inr ⟨rfl, rfl, rfl, hb_w 65 (by decide +kernel) (by decide +kernel)⟩⟩
theorem lpX4_init_42 : hb_lkP yX4_init 42 4 0 := ⟨RX4, TX4, 13, rfl, by decide, rfl, Or.inl ⟨rfl, Or.inl (hb_w 46 (by decide +kernel) (by decide +kernel))⟩⟩
theorem lkX4_9 : hb_lkF RX4 9 4 1 := ⟨RX4, TX4, 13, rfl, by decide, rfl, Or.inl (hb_w 49 (by decide +kernel) (by decide +kernel))⟩
theorem lkX4_21 : hb_lkF RX4 21 4 4 := ⟨RX4, TX4, 13, rfl, by decide, rfl, Or.inl (hb_w 52 (by decide +kernel) (by decide +kernel))⟩
theorem lmX4_46 : Cond.methodLink RX4 46 yJ7_fill_53178 ∈ hb_wl := hb_w 43 (by decide +kernel) (by decide +kernel)
theorem lkX4_39 : hb_lkF RX4 39 4 10 := ⟨RX4, TX4, 13, rfl, by decide, rfl, Or.inl (hb_w 65 (by decide +kernel) (by decide +kernel))⟩
theorem lpX4_init_52 : hb_lkP yX4_init 52 4 11 := ⟨RX4, TX4, 13, rfl, by decide, rfl, Or.inl ⟨rfl, Or.inl (hb_w 66 (by decide +kernel) (by decide +kernel))⟩⟩
theorem lkX4_42 : hb_lkF RX4 42 4 0 := ⟨RX4, TX4, 13, rfl, by decide, rfl, Or.inl (hb_w 46 (by decide +kernel) (by decide +kernel))⟩
theorem lpX4_copyFrom_42 : hb_lkP yX4_copyFrom 42 4 0 := ⟨RX4, TX4, 13, rfl, by decide, rfl, Or.inl ⟨rfl, Or.inl (hb_w 46 (by decide +kernel) (by decide +kernel))⟩⟩
theorem wd_332 : (Jvm.Cond.methodLink "HeapBrowser$Heap" (55 : Nat) ({ cls := "java/lang/System", name := "arraycopy", desc := "(Ljava/lang/Object;ILjava/lang/Object;II)V" } : Jvm.MethodName)) ∈ hb_wl := hb_w 332 (by decide +kernel) (by decide +kernel)
theorem lkX4_15 : hb_lkF RX4 15 4 2 := ⟨RX4, TX4, 13, rfl, by decide, rfl, Or.inl (hb_w 50 (by decide +kernel) (by decide +kernel))⟩
theorem lkX4_18 : hb_lkF RX4 18 4 3 := ⟨RX4, TX4, 13, rfl, by decide, rfl, Or.inl (hb_w 51 (by decide +kernel) (by decide +kernel))⟩
theorem lkX4_24 : hb_lkF RX4 24 4 5 := ⟨RX4, TX4, 13, rfl, by decide, rfl, Or.inl (hb_w 55 (by decide +kernel) (by decide +kernel))⟩
theorem lkX4_27 : hb_lkF RX4 27 4 6 := ⟨RX4, TX4, 13, rfl, by decide, rfl, Or.inl (hb_w 56 (by decide +kernel) (by decide +kernel))⟩
theorem lkX4_30 : hb_lkF RX4 30 4 7 := ⟨RX4, TX4, 13, rfl, by decide, rfl, Or.inl (hb_w 58 (by decide +kernel) (by decide +kernel))⟩
theorem lkX4_33 : hb_lkF RX4 33 4 8 := ⟨RX4, TX4, 13, rfl, by decide, rfl, Or.inl (hb_w 60 (by decide +kernel) (by decide +kernel))⟩
theorem lkX4_36 : hb_lkF RX4 36 4 9 := ⟨RX4, TX4, 13, rfl, by decide, rfl, Or.inl (hb_w 62 (by decide +kernel) (by decide +kernel))⟩
theorem lkX4_52 : hb_lkF RX4 52 4 11 := ⟨RX4, TX4, 13, rfl, by decide, rfl, Or.inl (hb_w 66 (by decide +kernel) (by decide +kernel))⟩
theorem lpX4_copyFrom_52 : hb_lkP yX4_copyFrom 52 4 11 := ⟨RX4, TX4, 13, rfl, by decide, rfl, Or.inl ⟨rfl, Or.inl (hb_w 66 (by decide +kernel) (by decide +kernel))⟩⟩
theorem lkX4_61 : hb_lkF RX4 61 4 12 := ⟨RX4, TX4, 13, rfl, by decide, rfl, Or.inl (hb_w 68 (by decide +kernel) (by decide +kernel))⟩
theorem lpX4_copyFrom_61 : hb_lkP yX4_copyFrom 61 4 12 := ⟨RX4, TX4, 13, rfl, by decide, rfl, Or.inl ⟨rfl, Or.inl (hb_w 68 (by decide +kernel) (by decide +kernel))⟩⟩
theorem lmX4_64 : Cond.methodLink RX4 64 yX4_hasClass ∈ hb_wl := hb_w 702 (by decide +kernel) (by decide +kernel)
theorem lmX4_68 : Cond.methodLink RX4 68 yX4_hasObject ∈ hb_wl := hb_w 439 (by decide +kernel) (by decide +kernel)
theorem lnX4_137 : Cond.methodLinkNest RX4 137 yX8_member "HeapBrowser" ∈ hb_nw := List.mem_of_getElem? (i := 38) (by decide +kernel)
theorem wd_396 : (Jvm.Cond.constantLong "java/lang/Long" (314 : Nat) (6148914691236517205 : Int64)) ∈ hb_wl := hb_w 396 (by decide +kernel) (by decide +kernel)
theorem wd_397 : (Jvm.Cond.constantLong "java/lang/Long" (316 : Nat) (3689348814741910323 : Int64)) ∈ hb_wl := hb_w 397 (by decide +kernel) (by decide +kernel)
theorem wd_398 : (Jvm.Cond.constantLong "java/lang/Long" (318 : Nat) (1085102592571150095 : Int64)) ∈ hb_wl := hb_w 398 (by decide +kernel) (by decide +kernel)
theorem lmX4_108 : Cond.methodLink RX4 108 yX4_allObjects ∈ hb_wl := hb_w 429 (by decide +kernel) (by decide +kernel)
theorem lmX4_141 : Cond.methodLink RX4 141 yJ13_bitCount_95d88 ∈ hb_wl := hb_w 455 (by decide +kernel) (by decide +kernel)
theorem lmX4_75 : Cond.methodLink RX4 75 yX4_objectCount ∈ hb_wl := hb_w 707 (by decide +kernel) (by decide +kernel)
theorem lmX4_71 : Cond.methodLink RX4 71 yX4_problemOfHolder ∈ hb_wl := hb_w 703 (by decide +kernel) (by decide +kernel)
theorem lmX4_78 : Cond.methodLink RX4 78 yX4_hasSlot ∈ hb_wl := hb_w 717 (by decide +kernel) (by decide +kernel)
theorem lnX4_82 : Cond.methodLinkNest RX4 82 yX8_problemOf "HeapBrowser" ∈ hb_nw := List.mem_of_getElem? (i := 44) (by decide +kernel)
theorem lmX4_86 : Cond.methodLink RX4 86 yX4_problemOfRoot ∈ hb_wl := hb_w 732 (by decide +kernel) (by decide +kernel)
theorem lpX4_addClass_42 : hb_lkP yX4_addClass 42 4 0 := ⟨RX4, TX4, 13, rfl, by decide, rfl, Or.inl ⟨rfl, Or.inl (hb_w 46 (by decide +kernel) (by decide +kernel))⟩⟩
theorem lpX4_addClass_61 : hb_lkP yX4_addClass 61 4 12 := ⟨RX4, TX4, 13, rfl, by decide, rfl, Or.inl ⟨rfl, Or.inl (hb_w 68 (by decide +kernel) (by decide +kernel))⟩⟩
theorem lmX4_134 : Cond.methodLink RX4 134 yX4_roundedUp ∈ hb_wl := hb_w 745 (by decide +kernel) (by decide +kernel)
theorem lmX4_101 : Cond.methodLink RX4 101 yX4_lowestFree ∈ hb_wl := hb_w 752 (by decide +kernel) (by decide +kernel)
theorem lpX4_addObject_52 : hb_lkP yX4_addObject 52 4 11 := ⟨RX4, TX4, 13, rfl, by decide, rfl, Or.inl ⟨rfl, Or.inl (hb_w 66 (by decide +kernel) (by decide +kernel))⟩⟩
theorem lmX4_104 : Cond.methodLink RX4 104 yX4_emptySlotsFrom ∈ hb_wl := hb_w 443 (by decide +kernel) (by decide +kernel)
theorem lpX4_addObject_61 : hb_lkP yX4_addObject 61 4 12 := ⟨RX4, TX4, 13, rfl, by decide, rfl, Or.inl ⟨rfl, Or.inl (hb_w 68 (by decide +kernel) (by decide +kernel))⟩⟩
theorem lmX4_90 : Cond.methodLink RX4 90 yX4_sizeOfInstance ∈ hb_wl := hb_w 741 (by decide +kernel) (by decide +kernel)
theorem lmX4_94 : Cond.methodLink RX4 94 yX4_addObject ∈ hb_wl := hb_w 748 (by decide +kernel) (by decide +kernel)
theorem lmX4_98 : Cond.methodLink RX4 98 yX4_sizeOfArray ∈ hb_wl := hb_w 760 (by decide +kernel) (by decide +kernel)
theorem lpX4_putTarget_61 : hb_lkP yX4_putTarget 61 4 12 := ⟨RX4, TX4, 13, rfl, by decide, rfl, Or.inl ⟨rfl, Or.inl (hb_w 68 (by decide +kernel) (by decide +kernel))⟩⟩
theorem lpX4_putLength_61 : hb_lkP yX4_putLength 61 4 12 := ⟨RX4, TX4, 13, rfl, by decide, rfl, Or.inl ⟨rfl, Or.inl (hb_w 68 (by decide +kernel) (by decide +kernel))⟩⟩
theorem lpX4_putRoots_61 : hb_lkP yX4_putRoots 61 4 12 := ⟨RX4, TX4, 13, rfl, by decide, rfl, Or.inl ⟨rfl, Or.inl (hb_w 68 (by decide +kernel) (by decide +kernel))⟩⟩
theorem lnX4_118 : Cond.methodLinkNest RX4 118 yX8_contains "HeapBrowser" ∈ hb_nw := List.mem_of_getElem? (i := 40) (by decide +kernel)
theorem wd_436 : (Jvm.Cond.methodLink "HeapBrowser$Heap" (126 : Nat) ({ cls := "java/lang/Math", name := "min", desc := "(II)I" } : Jvm.MethodName)) ∈ hb_wl := hb_w 436 (by decide +kernel) (by decide +kernel)
theorem lpX4_removeAllBut_61 : hb_lkP yX4_removeAllBut 61 4 12 := ⟨RX4, TX4, 13, rfl, by decide, rfl, Or.inl ⟨rfl, Or.inl (hb_w 68 (by decide +kernel) (by decide +kernel))⟩⟩
theorem lmX4_122 : Cond.methodLink RX4 122 yX4_grow ∈ hb_wl := hb_w 432 (by decide +kernel) (by decide +kernel)
theorem wd_430 : (Jvm.Cond.constantLong "HeapBrowser$Heap" (112 : Nat) (-1 : Int64)) ∈ hb_wl := hb_w 430 (by decide +kernel) (by decide +kernel)
theorem lmX4_114 : Cond.methodLink RX4 114 yX4_sizeOfAll ∈ hb_wl := hb_w 431 (by decide +kernel) (by decide +kernel)
theorem lmX4_131 : Cond.methodLink RX4 131 yX4_countBelow ∈ hb_wl := hb_w 796 (by decide +kernel) (by decide +kernel)
theorem lmX4_146 : Cond.methodLink RX4 146 yX4_isBelow ∈ hb_wl := hb_w 528 (by decide +kernel) (by decide +kernel)
theorem lmX4_149 : Cond.methodLink RX4 149 yX4_objectWithSerial ∈ hb_wl := hb_w 1277 (by decide +kernel) (by decide +kernel)
theorem lmX4_159 : Cond.methodLink RX4 159 yX4_targetOf ∈ hb_wl := hb_w 1293 (by decide +kernel) (by decide +kernel)
theorem lmX4_156 : Cond.methodLink RX4 156 yX4_serialIn ∈ hb_wl := hb_w 1289 (by decide +kernel) (by decide +kernel)
theorem lmX4_152 : Cond.methodLink RX4 152 yX4_differs ∈ hb_wl := hb_w 1285 (by decide +kernel) (by decide +kernel)
