theorem dX6_init_0 : decode cX6_init 0 = .ok (.aload_n 0, 1) := by decide +kernel
theorem dX6_init_1 : decode cX6_init 1 = .ok (.invokespecial 3, 3) := by decide +kernel
theorem dX6_init_4 : decode cX6_init 4 = .ok (.aload_n 0, 1) := by decide +kernel
theorem dX6_init_5 : decode cX6_init 5 = .ok (.bipush 40, 2) := by decide +kernel
theorem dX6_init_7 : decode cX6_init 7 = .ok (.newarray .int, 2) := by decide +kernel
theorem dX6_init_9 : decode cX6_init 9 = .ok (.putfield 9, 3) := by decide +kernel
theorem dX6_init_12 : decode cX6_init 12 = .ok (.aload_n 0, 1) := by decide +kernel
theorem dX6_init_13 : decode cX6_init 13 = .ok (.bipush 40, 2) := by decide +kernel
theorem dX6_init_15 : decode cX6_init 15 = .ok (.newarray .int, 2) := by decide +kernel
theorem dX6_init_17 : decode cX6_init 17 = .ok (.putfield 15, 3) := by decide +kernel
theorem dX6_init_20 : decode cX6_init 20 = .ok (.aload_n 0, 1) := by decide +kernel
theorem dX6_init_21 : decode cX6_init 21 = .ok (.bipush 40, 2) := by decide +kernel
theorem dX6_init_23 : decode cX6_init 23 = .ok (.newarray .int, 2) := by decide +kernel
theorem dX6_init_25 : decode cX6_init 25 = .ok (.putfield 18, 3) := by decide +kernel
theorem dX6_init_28 : decode cX6_init 28 = .ok (.return_, 1) := by decide +kernel
theorem dX0_init_0 : decode cX0_init 0 = .ok (.aload_n 0, 1) := by decide +kernel
theorem dX0_init_1 : decode cX0_init 1 = .ok (.invokespecial 3, 3) := by decide +kernel
theorem dX0_init_4 : decode cX0_init 4 = .ok (.aload_n 0, 1) := by decide +kernel
theorem dX0_init_5 : decode cX0_init 5 = .ok (.new 9, 3) := by decide +kernel
theorem dX0_init_8 : decode cX0_init 8 = .ok (.dup, 1) := by decide +kernel
theorem dX0_init_9 : decode cX0_init 9 = .ok (.invokespecial 11, 3) := by decide +kernel
theorem dX0_init_12 : decode cX0_init 12 = .ok (.putfield 12, 3) := by decide +kernel
theorem dX0_init_15 : decode cX0_init 15 = .ok (.aload_n 0, 1) := by decide +kernel
theorem dX0_init_16 : decode cX0_init 16 = .ok (.new 9, 3) := by decide +kernel
theorem dX0_init_19 : decode cX0_init 19 = .ok (.dup, 1) := by decide +kernel
theorem dX0_init_20 : decode cX0_init 20 = .ok (.invokespecial 11, 3) := by decide +kernel
theorem dX0_init_23 : decode cX0_init 23 = .ok (.putfield 18, 3) := by decide +kernel
theorem dX0_init_26 : decode cX0_init 26 = .ok (.aload_n 0, 1) := by decide +kernel
theorem dX0_init_27 : decode cX0_init 27 = .ok (.sipush 320, 3) := by decide +kernel
theorem dX0_init_30 : decode cX0_init 30 = .ok (.newarray .int, 2) := by decide +kernel
theorem dX0_init_32 : decode cX0_init 32 = .ok (.putfield 21, 3) := by decide +kernel
theorem dX0_init_35 : decode cX0_init 35 = .ok (.aload_n 0, 1) := by decide +kernel
theorem dX0_init_36 : decode cX0_init 36 = .ok (.bipush 40, 2) := by decide +kernel
theorem dX0_init_38 : decode cX0_init 38 = .ok (.newarray .long, 2) := by decide +kernel
theorem dX0_init_40 : decode cX0_init 40 = .ok (.putfield 25, 3) := by decide +kernel
theorem dX0_init_43 : decode cX0_init 43 = .ok (.aload_n 0, 1) := by decide +kernel
theorem dX0_init_44 : decode cX0_init 44 = .ok (.bipush 40, 2) := by decide +kernel
theorem dX0_init_46 : decode cX0_init 46 = .ok (.newarray .int, 2) := by decide +kernel
theorem dX0_init_48 : decode cX0_init 48 = .ok (.putfield 29, 3) := by decide +kernel
theorem dX0_init_51 : decode cX0_init 51 = .ok (.aload_n 0, 1) := by decide +kernel
theorem dX0_init_52 : decode cX0_init 52 = .ok (.bipush 40, 2) := by decide +kernel
theorem dX0_init_54 : decode cX0_init 54 = .ok (.newarray .int, 2) := by decide +kernel
theorem dX0_init_56 : decode cX0_init 56 = .ok (.putfield 32, 3) := by decide +kernel
theorem dX0_init_59 : decode cX0_init 59 = .ok (.aload_n 0, 1) := by decide +kernel
theorem dX0_init_60 : decode cX0_init 60 = .ok (.bipush 40, 2) := by decide +kernel
theorem dX0_init_62 : decode cX0_init 62 = .ok (.newarray .int, 2) := by decide +kernel
theorem dX0_init_64 : decode cX0_init 64 = .ok (.putfield 35, 3) := by decide +kernel
theorem dX0_init_67 : decode cX0_init 67 = .ok (.aload_n 0, 1) := by decide +kernel
theorem dX0_init_68 : decode cX0_init 68 = .ok (.bipush 40, 2) := by decide +kernel
theorem dX0_init_70 : decode cX0_init 70 = .ok (.newarray .int, 2) := by decide +kernel
theorem dX0_init_72 : decode cX0_init 72 = .ok (.putfield 38, 3) := by decide +kernel
theorem dX0_init_75 : decode cX0_init 75 = .ok (.aload_n 0, 1) := by decide +kernel
theorem dX0_init_76 : decode cX0_init 76 = .ok (.bipush 40, 2) := by decide +kernel
theorem dX0_init_78 : decode cX0_init 78 = .ok (.newarray .long, 2) := by decide +kernel
theorem dX0_init_80 : decode cX0_init 80 = .ok (.putfield 41, 3) := by decide +kernel
theorem dX0_init_83 : decode cX0_init 83 = .ok (.aload_n 0, 1) := by decide +kernel
theorem dX0_init_84 : decode cX0_init 84 = .ok (.bipush 40, 2) := by decide +kernel
theorem dX0_init_86 : decode cX0_init 86 = .ok (.newarray .int, 2) := by decide +kernel
theorem dX0_init_88 : decode cX0_init 88 = .ok (.putfield 44, 3) := by decide +kernel
theorem dX0_init_91 : decode cX0_init 91 = .ok (.aload_n 0, 1) := by decide +kernel
theorem dX0_init_92 : decode cX0_init 92 = .ok (.aload_n 1, 1) := by decide +kernel
theorem dX0_init_93 : decode cX0_init 93 = .ok (.putfield 47, 3) := by decide +kernel
theorem dX0_init_96 : decode cX0_init 96 = .ok (.aload_n 0, 1) := by decide +kernel
theorem dX0_init_97 : decode cX0_init 97 = .ok (.iconst (-1), 1) := by decide +kernel
theorem dX0_init_98 : decode cX0_init 98 = .ok (.putfield 51, 3) := by decide +kernel
theorem dX0_init_101 : decode cX0_init 101 = .ok (.return_, 1) := by decide +kernel
theorem dX6_enter_0 : decode cX6_enter 0 = .ok (.lload_n 1, 1) := by decide +kernel
theorem dX6_enter_1 : decode cX6_enter 1 = .ok (.aload_n 0, 1) := by decide +kernel
theorem dX6_enter_2 : decode cX6_enter 2 = .ok (.getfield 31, 3) := by decide +kernel
theorem dX6_enter_5 : decode cX6_enter 5 = .ok (.ldc2_w 35, 3) := by decide +kernel
theorem dX6_enter_8 : decode cX6_enter 8 = .ok (.lxor, 1) := by decide +kernel
theorem dX6_enter_9 : decode cX6_enter 9 = .ok (.land, 1) := by decide +kernel
theorem dX6_enter_10 : decode cX6_enter 10 = .ok (.lstore 5, 2) := by decide +kernel
theorem dX6_enter_12 : decode cX6_enter 12 = .ok (.aload_n 0, 1) := by decide +kernel
theorem dX6_enter_13 : decode cX6_enter 13 = .ok (.dup, 1) := by decide +kernel
theorem dX6_enter_14 : decode cX6_enter 14 = .ok (.getfield 31, 3) := by decide +kernel
theorem dX6_enter_17 : decode cX6_enter 17 = .ok (.lload 5, 2) := by decide +kernel
theorem dX6_enter_19 : decode cX6_enter 19 = .ok (.lor, 1) := by decide +kernel
theorem dX6_enter_20 : decode cX6_enter 20 = .ok (.putfield 31, 3) := by decide +kernel
theorem dX6_enter_23 : decode cX6_enter 23 = .ok (.iconst 0, 1) := by decide +kernel
theorem dX6_enter_24 : decode cX6_enter 24 = .ok (.istore 7, 2) := by decide +kernel
theorem dX6_enter_26 : decode cX6_enter 26 = .ok (.iload 7, 2) := by decide +kernel
theorem dX6_enter_28 : decode cX6_enter 28 = .ok (.bipush 40, 2) := by decide +kernel
theorem dX6_enter_30 : decode cX6_enter 30 = .ok (.if_icmp .ge 78, 3) := by decide +kernel
theorem dX6_enter_33 : decode cX6_enter 33 = .ok (.lload 5, 2) := by decide +kernel
theorem dX6_enter_35 : decode cX6_enter 35 = .ok (.lconst 0, 1) := by decide +kernel
theorem dX6_enter_36 : decode cX6_enter 36 = .ok (.lcmp, 1) := by decide +kernel
theorem dX6_enter_37 : decode cX6_enter 37 = .ok (.ifCond .eq 71, 3) := by decide +kernel
theorem dX6_enter_40 : decode cX6_enter 40 = .ok (.lload 5, 2) := by decide +kernel
theorem dX6_enter_42 : decode cX6_enter 42 = .ok (.lconst 1, 1) := by decide +kernel
theorem dX6_enter_43 : decode cX6_enter 43 = .ok (.land, 1) := by decide +kernel
theorem dX6_enter_44 : decode cX6_enter 44 = .ok (.lconst 1, 1) := by decide +kernel
theorem dX6_enter_45 : decode cX6_enter 45 = .ok (.lcmp, 1) := by decide +kernel
theorem dX6_enter_46 : decode cX6_enter 46 = .ok (.ifCond .ne 50, 3) := by decide +kernel
theorem dX6_enter_49 : decode cX6_enter 49 = .ok (.aload_n 0, 1) := by decide +kernel
theorem dX6_enter_50 : decode cX6_enter 50 = .ok (.getfield 27, 3) := by decide +kernel
theorem dX6_enter_53 : decode cX6_enter 53 = .ok (.bipush 40, 2) := by decide +kernel
theorem dX6_enter_55 : decode cX6_enter 55 = .ok (.if_icmp .ge 41, 3) := by decide +kernel
theorem dX6_enter_58 : decode cX6_enter 58 = .ok (.aload_n 0, 1) := by decide +kernel
theorem dX6_enter_59 : decode cX6_enter 59 = .ok (.getfield 9, 3) := by decide +kernel
theorem dX6_enter_62 : decode cX6_enter 62 = .ok (.aload_n 0, 1) := by decide +kernel
theorem dX6_enter_63 : decode cX6_enter 63 = .ok (.getfield 27, 3) := by decide +kernel
theorem dX6_enter_66 : decode cX6_enter 66 = .ok (.iload 7, 2) := by decide +kernel
theorem dX6_enter_68 : decode cX6_enter 68 = .ok (.iastore, 1) := by decide +kernel
theorem dX6_enter_69 : decode cX6_enter 69 = .ok (.aload_n 0, 1) := by decide +kernel
theorem dX6_enter_70 : decode cX6_enter 70 = .ok (.dup, 1) := by decide +kernel
theorem dX6_enter_71 : decode cX6_enter 71 = .ok (.getfield 27, 3) := by decide +kernel
theorem dX6_enter_74 : decode cX6_enter 74 = .ok (.iconst 1, 1) := by decide +kernel
theorem dX6_enter_75 : decode cX6_enter 75 = .ok (.iadd, 1) := by decide +kernel
theorem dX6_enter_76 : decode cX6_enter 76 = .ok (.putfield 27, 3) := by decide +kernel
theorem dX6_enter_79 : decode cX6_enter 79 = .ok (.aload_n 0, 1) := by decide +kernel
theorem dX6_enter_80 : decode cX6_enter 80 = .ok (.getfield 15, 3) := by decide +kernel
theorem dX6_enter_83 : decode cX6_enter 83 = .ok (.iload 7, 2) := by decide +kernel
theorem dX6_enter_85 : decode cX6_enter 85 = .ok (.iload 4, 2) := by decide +kernel
theorem dX6_enter_87 : decode cX6_enter 87 = .ok (.iastore, 1) := by decide +kernel
theorem dX6_enter_88 : decode cX6_enter 88 = .ok (.aload_n 0, 1) := by decide +kernel
theorem dX6_enter_89 : decode cX6_enter 89 = .ok (.getfield 18, 3) := by decide +kernel
theorem dX6_enter_92 : decode cX6_enter 92 = .ok (.iload 7, 2) := by decide +kernel
theorem dX6_enter_94 : decode cX6_enter 94 = .ok (.iload_n 3, 1) := by decide +kernel
theorem dX6_enter_95 : decode cX6_enter 95 = .ok (.iastore, 1) := by decide +kernel
theorem dX6_enter_96 : decode cX6_enter 96 = .ok (.lload 5, 2) := by decide +kernel
theorem dX6_enter_98 : decode cX6_enter 98 = .ok (.iconst 1, 1) := by decide +kernel
theorem dX6_enter_99 : decode cX6_enter 99 = .ok (.lushr, 1) := by decide +kernel
theorem dX6_enter_100 : decode cX6_enter 100 = .ok (.lstore 5, 2) := by decide +kernel
theorem dX6_enter_102 : decode cX6_enter 102 = .ok (.iinc 7 1, 3) := by decide +kernel
theorem dX6_enter_105 : decode cX6_enter 105 = .ok (.goto (-79), 3) := by decide +kernel
theorem dX6_enter_108 : decode cX6_enter 108 = .ok (.return_, 1) := by decide +kernel
theorem dX6_targetsOf_0 : decode cX6_targetsOf 0 = .ok (.lconst 0, 1) := by decide +kernel
theorem dX6_targetsOf_1 : decode cX6_targetsOf 1 = .ok (.lstore_n 3, 1) := by decide +kernel
theorem dX6_targetsOf_2 : decode cX6_targetsOf 2 = .ok (.iconst 0, 1) := by decide +kernel
theorem dX6_targetsOf_3 : decode cX6_targetsOf 3 = .ok (.istore 5, 2) := by decide +kernel
theorem dX6_targetsOf_5 : decode cX6_targetsOf 5 = .ok (.iload 5, 2) := by decide +kernel
theorem dX6_targetsOf_7 : decode cX6_targetsOf 7 = .ok (.bipush 8, 2) := by decide +kernel
theorem dX6_targetsOf_9 : decode cX6_targetsOf 9 = .ok (.if_icmp .ge 38, 3) := by decide +kernel
theorem dX6_targetsOf_12 : decode cX6_targetsOf 12 = .ok (.iload_n 1, 1) := by decide +kernel
theorem dX6_targetsOf_13 : decode cX6_targetsOf 13 = .ok (.bipush 8, 2) := by decide +kernel
theorem dX6_targetsOf_15 : decode cX6_targetsOf 15 = .ok (.imul, 1) := by decide +kernel
theorem dX6_targetsOf_16 : decode cX6_targetsOf 16 = .ok (.iload 5, 2) := by decide +kernel
theorem dX6_targetsOf_18 : decode cX6_targetsOf 18 = .ok (.iadd, 1) := by decide +kernel
theorem dX6_targetsOf_19 : decode cX6_targetsOf 19 = .ok (.istore 6, 2) := by decide +kernel
theorem dX6_targetsOf_21 : decode cX6_targetsOf 21 = .ok (.lload_n 3, 1) := by decide +kernel
theorem dX6_targetsOf_22 : decode cX6_targetsOf 22 = .ok (.iload 6, 2) := by decide +kernel
theorem dX6_targetsOf_24 : decode cX6_targetsOf 24 = .ok (.iload_n 2, 1) := by decide +kernel
theorem dX6_targetsOf_25 : decode cX6_targetsOf 25 = .ok (.if_icmp .ne 7, 3) := by decide +kernel
theorem dX6_targetsOf_28 : decode cX6_targetsOf 28 = .ok (.lconst 0, 1) := by decide +kernel
theorem dX6_targetsOf_29 : decode cX6_targetsOf 29 = .ok (.goto 10, 3) := by decide +kernel
theorem dX6_targetsOf_32 : decode cX6_targetsOf 32 = .ok (.aload_n 0, 1) := by decide +kernel
theorem dX6_targetsOf_33 : decode cX6_targetsOf 33 = .ok (.iload 6, 2) := by decide +kernel
theorem dX6_targetsOf_35 : decode cX6_targetsOf 35 = .ok (.iaload, 1) := by decide +kernel
theorem dX6_targetsOf_36 : decode cX6_targetsOf 36 = .ok (.invokestatic 45, 3) := by decide +kernel
theorem dX6_targetsOf_39 : decode cX6_targetsOf 39 = .ok (.lor, 1) := by decide +kernel
theorem dX6_targetsOf_40 : decode cX6_targetsOf 40 = .ok (.lstore_n 3, 1) := by decide +kernel
theorem dX6_targetsOf_41 : decode cX6_targetsOf 41 = .ok (.iinc 5 1, 3) := by decide +kernel
theorem dX6_targetsOf_44 : decode cX6_targetsOf 44 = .ok (.goto (-39), 3) := by decide +kernel
theorem dX6_targetsOf_47 : decode cX6_targetsOf 47 = .ok (.lload_n 3, 1) := by decide +kernel
theorem dX6_targetsOf_48 : decode cX6_targetsOf 48 = .ok (.lreturn, 1) := by decide +kernel
theorem dX6_run_0 : decode cX6_run 0 = .ok (.aload_n 0, 1) := by decide +kernel
theorem dX6_run_1 : decode cX6_run 1 = .ok (.getfield 15, 3) := by decide +kernel
theorem dX6_run_4 : decode cX6_run 4 = .ok (.iconst (-1), 1) := by decide +kernel
theorem dX6_run_5 : decode cX6_run 5 = .ok (.invokestatic 21, 3) := by decide +kernel
theorem dX6_run_8 : decode cX6_run 8 = .ok (.aload_n 0, 1) := by decide +kernel
theorem dX6_run_9 : decode cX6_run 9 = .ok (.getfield 18, 3) := by decide +kernel
theorem dX6_run_12 : decode cX6_run 12 = .ok (.iconst (-1), 1) := by decide +kernel
theorem dX6_run_13 : decode cX6_run 13 = .ok (.invokestatic 21, 3) := by decide +kernel
theorem dX6_run_16 : decode cX6_run 16 = .ok (.aload_n 0, 1) := by decide +kernel
theorem dX6_run_17 : decode cX6_run 17 = .ok (.iconst 0, 1) := by decide +kernel
theorem dX6_run_18 : decode cX6_run 18 = .ok (.putfield 27, 3) := by decide +kernel
theorem dX6_run_21 : decode cX6_run 21 = .ok (.aload_n 0, 1) := by decide +kernel
theorem dX6_run_22 : decode cX6_run 22 = .ok (.lconst 0, 1) := by decide +kernel
theorem dX6_run_23 : decode cX6_run 23 = .ok (.putfield 31, 3) := by decide +kernel
theorem dX6_run_26 : decode cX6_run 26 = .ok (.aload_n 0, 1) := by decide +kernel
theorem dX6_run_27 : decode cX6_run 27 = .ok (.lload_n 2, 1) := by decide +kernel
theorem dX6_run_28 : decode cX6_run 28 = .ok (.lload 4, 2) := by decide +kernel
theorem dX6_run_30 : decode cX6_run 30 = .ok (.ldc2_w 35, 3) := by decide +kernel
theorem dX6_run_33 : decode cX6_run 33 = .ok (.lxor, 1) := by decide +kernel
theorem dX6_run_34 : decode cX6_run 34 = .ok (.land, 1) := by decide +kernel
theorem dX6_run_35 : decode cX6_run 35 = .ok (.iconst (-1), 1) := by decide +kernel
theorem dX6_run_36 : decode cX6_run 36 = .ok (.iconst 0, 1) := by decide +kernel
theorem dX6_run_37 : decode cX6_run 37 = .ok (.invokevirtual 37, 3) := by decide +kernel
theorem dX6_run_40 : decode cX6_run 40 = .ok (.iconst 0, 1) := by decide +kernel
theorem dX6_run_41 : decode cX6_run 41 = .ok (.istore 7, 2) := by decide +kernel
theorem dX6_run_43 : decode cX6_run 43 = .ok (.iload 7, 2) := by decide +kernel
theorem dX6_run_45 : decode cX6_run 45 = .ok (.aload_n 0, 1) := by decide +kernel
theorem dX6_run_46 : decode cX6_run 46 = .ok (.getfield 27, 3) := by decide +kernel
theorem dX6_run_49 : decode cX6_run 49 = .ok (.if_icmp .ge 59, 3) := by decide +kernel
theorem dX6_run_52 : decode cX6_run 52 = .ok (.iload 7, 2) := by decide +kernel
theorem dX6_run_54 : decode cX6_run 54 = .ok (.bipush 40, 2) := by decide +kernel
theorem dX6_run_56 : decode cX6_run 56 = .ok (.if_icmp .ge 52, 3) := by decide +kernel
theorem dX6_run_59 : decode cX6_run 59 = .ok (.aload_n 0, 1) := by decide +kernel
theorem dX6_run_60 : decode cX6_run 60 = .ok (.getfield 9, 3) := by decide +kernel
theorem dX6_run_63 : decode cX6_run 63 = .ok (.iload 7, 2) := by decide +kernel
theorem dX6_run_65 : decode cX6_run 65 = .ok (.iaload, 1) := by decide +kernel
theorem dX6_run_66 : decode cX6_run 66 = .ok (.istore 8, 2) := by decide +kernel
theorem dX6_run_68 : decode cX6_run 68 = .ok (.aload_n 1, 1) := by decide +kernel
theorem dX6_run_69 : decode cX6_run 69 = .ok (.iload 8, 2) := by decide +kernel
theorem dX6_run_71 : decode cX6_run 71 = .ok (.iload 6, 2) := by decide +kernel
theorem dX6_run_73 : decode cX6_run 73 = .ok (.invokestatic 41, 3) := by decide +kernel
theorem dX6_run_76 : decode cX6_run 76 = .ok (.lstore 9, 2) := by decide +kernel
theorem dX6_run_78 : decode cX6_run 78 = .ok (.aload_n 0, 1) := by decide +kernel
theorem dX6_run_79 : decode cX6_run 79 = .ok (.lload 9, 2) := by decide +kernel
theorem dX6_run_81 : decode cX6_run 81 = .ok (.lload 4, 2) := by decide +kernel
theorem dX6_run_83 : decode cX6_run 83 = .ok (.ldc2_w 35, 3) := by decide +kernel
theorem dX6_run_86 : decode cX6_run 86 = .ok (.lxor, 1) := by decide +kernel
theorem dX6_run_87 : decode cX6_run 87 = .ok (.land, 1) := by decide +kernel
theorem dX6_run_88 : decode cX6_run 88 = .ok (.iload 8, 2) := by decide +kernel
theorem dX6_run_90 : decode cX6_run 90 = .ok (.aload_n 0, 1) := by decide +kernel
theorem dX6_run_91 : decode cX6_run 91 = .ok (.getfield 15, 3) := by decide +kernel
theorem dX6_run_94 : decode cX6_run 94 = .ok (.iload 8, 2) := by decide +kernel
theorem dX6_run_96 : decode cX6_run 96 = .ok (.iaload, 1) := by decide +kernel
theorem dX6_run_97 : decode cX6_run 97 = .ok (.iconst 1, 1) := by decide +kernel
theorem dX6_run_98 : decode cX6_run 98 = .ok (.iadd, 1) := by decide +kernel
theorem dX6_run_99 : decode cX6_run 99 = .ok (.invokevirtual 37, 3) := by decide +kernel
theorem dX6_run_102 : decode cX6_run 102 = .ok (.iinc 7 1, 3) := by decide +kernel
theorem dX6_run_105 : decode cX6_run 105 = .ok (.goto (-62), 3) := by decide +kernel
theorem dX6_run_108 : decode cX6_run 108 = .ok (.return_, 1) := by decide +kernel
theorem dX0_narrowTargets_0 : decode cX0_narrowTargets 0 = .ok (.iconst 0, 1) := by decide +kernel
theorem dX0_narrowTargets_1 : decode cX0_narrowTargets 1 = .ok (.istore_n 2, 1) := by decide +kernel
theorem dX0_narrowTargets_2 : decode cX0_narrowTargets 2 = .ok (.iconst 0, 1) := by decide +kernel
theorem dX0_narrowTargets_3 : decode cX0_narrowTargets 3 = .ok (.istore_n 3, 1) := by decide +kernel
theorem dX0_narrowTargets_4 : decode cX0_narrowTargets 4 = .ok (.iload_n 3, 1) := by decide +kernel
theorem dX0_narrowTargets_5 : decode cX0_narrowTargets 5 = .ok (.bipush 8, 2) := by decide +kernel
theorem dX0_narrowTargets_7 : decode cX0_narrowTargets 7 = .ok (.if_icmp .ge 86, 3) := by decide +kernel
theorem dX0_narrowTargets_10 : decode cX0_narrowTargets 10 = .ok (.aload_n 0, 1) := by decide +kernel
theorem dX0_narrowTargets_11 : decode cX0_narrowTargets 11 = .ok (.getfield 21, 3) := by decide +kernel
theorem dX0_narrowTargets_14 : decode cX0_narrowTargets 14 = .ok (.iload_n 1, 1) := by decide +kernel
theorem dX0_narrowTargets_15 : decode cX0_narrowTargets 15 = .ok (.bipush 8, 2) := by decide +kernel
theorem dX0_narrowTargets_17 : decode cX0_narrowTargets 17 = .ok (.imul, 1) := by decide +kernel
theorem dX0_narrowTargets_18 : decode cX0_narrowTargets 18 = .ok (.iload_n 3, 1) := by decide +kernel
theorem dX0_narrowTargets_19 : decode cX0_narrowTargets 19 = .ok (.iadd, 1) := by decide +kernel
theorem dX0_narrowTargets_20 : decode cX0_narrowTargets 20 = .ok (.iaload, 1) := by decide +kernel
theorem dX0_narrowTargets_21 : decode cX0_narrowTargets 21 = .ok (.istore 4, 2) := by decide +kernel
theorem dX0_narrowTargets_23 : decode cX0_narrowTargets 23 = .ok (.iload 4, 2) := by decide +kernel
theorem dX0_narrowTargets_25 : decode cX0_narrowTargets 25 = .ok (.ifCond .lt 62, 3) := by decide +kernel
theorem dX0_narrowTargets_28 : decode cX0_narrowTargets 28 = .ok (.iload 4, 2) := by decide +kernel
theorem dX0_narrowTargets_30 : decode cX0_narrowTargets 30 = .ok (.bipush 40, 2) := by decide +kernel
theorem dX0_narrowTargets_32 : decode cX0_narrowTargets 32 = .ok (.if_icmp .ge 55, 3) := by decide +kernel
theorem dX0_narrowTargets_35 : decode cX0_narrowTargets 35 = .ok (.aload_n 0, 1) := by decide +kernel
theorem dX0_narrowTargets_36 : decode cX0_narrowTargets 36 = .ok (.getfield 25, 3) := by decide +kernel
theorem dX0_narrowTargets_39 : decode cX0_narrowTargets 39 = .ok (.iload 4, 2) := by decide +kernel
theorem dX0_narrowTargets_41 : decode cX0_narrowTargets 41 = .ok (.laload, 1) := by decide +kernel
theorem dX0_narrowTargets_42 : decode cX0_narrowTargets 42 = .ok (.aload_n 0, 1) := by decide +kernel
theorem dX0_narrowTargets_43 : decode cX0_narrowTargets 43 = .ok (.getfield 25, 3) := by decide +kernel
theorem dX0_narrowTargets_46 : decode cX0_narrowTargets 46 = .ok (.iload_n 1, 1) := by decide +kernel
theorem dX0_narrowTargets_47 : decode cX0_narrowTargets 47 = .ok (.laload, 1) := by decide +kernel
theorem dX0_narrowTargets_48 : decode cX0_narrowTargets 48 = .ok (.iload 4, 2) := by decide +kernel
theorem dX0_narrowTargets_50 : decode cX0_narrowTargets 50 = .ok (.invokestatic 105, 3) := by decide +kernel
theorem dX0_narrowTargets_53 : decode cX0_narrowTargets 53 = .ok (.lor, 1) := by decide +kernel
theorem dX0_narrowTargets_54 : decode cX0_narrowTargets 54 = .ok (.land, 1) := by decide +kernel
theorem dX0_narrowTargets_55 : decode cX0_narrowTargets 55 = .ok (.lstore 5, 2) := by decide +kernel
theorem dX0_narrowTargets_57 : decode cX0_narrowTargets 57 = .ok (.iload_n 2, 1) := by decide +kernel
theorem dX0_narrowTargets_58 : decode cX0_narrowTargets 58 = .ok (.lload 5, 2) := by decide +kernel
theorem dX0_narrowTargets_60 : decode cX0_narrowTargets 60 = .ok (.aload_n 0, 1) := by decide +kernel
theorem dX0_narrowTargets_61 : decode cX0_narrowTargets 61 = .ok (.getfield 25, 3) := by decide +kernel
theorem dX0_narrowTargets_64 : decode cX0_narrowTargets 64 = .ok (.iload 4, 2) := by decide +kernel
theorem dX0_narrowTargets_66 : decode cX0_narrowTargets 66 = .ok (.laload, 1) := by decide +kernel
theorem dX0_narrowTargets_67 : decode cX0_narrowTargets 67 = .ok (.lcmp, 1) := by decide +kernel
theorem dX0_narrowTargets_68 : decode cX0_narrowTargets 68 = .ok (.ifCond .eq 7, 3) := by decide +kernel
theorem dX0_narrowTargets_71 : decode cX0_narrowTargets 71 = .ok (.iconst 1, 1) := by decide +kernel
theorem dX0_narrowTargets_72 : decode cX0_narrowTargets 72 = .ok (.goto 4, 3) := by decide +kernel
theorem dX0_narrowTargets_75 : decode cX0_narrowTargets 75 = .ok (.iconst 0, 1) := by decide +kernel
theorem dX0_narrowTargets_76 : decode cX0_narrowTargets 76 = .ok (.ior, 1) := by decide +kernel
theorem dX0_narrowTargets_77 : decode cX0_narrowTargets 77 = .ok (.istore_n 2, 1) := by decide +kernel
theorem dX0_narrowTargets_78 : decode cX0_narrowTargets 78 = .ok (.aload_n 0, 1) := by decide +kernel
theorem dX0_narrowTargets_79 : decode cX0_narrowTargets 79 = .ok (.getfield 25, 3) := by decide +kernel
theorem dX0_narrowTargets_82 : decode cX0_narrowTargets 82 = .ok (.iload 4, 2) := by decide +kernel
theorem dX0_narrowTargets_84 : decode cX0_narrowTargets 84 = .ok (.lload 5, 2) := by decide +kernel
theorem dX0_narrowTargets_86 : decode cX0_narrowTargets 86 = .ok (.lastore, 1) := by decide +kernel
theorem dX0_narrowTargets_87 : decode cX0_narrowTargets 87 = .ok (.iinc 3 1, 3) := by decide +kernel
theorem dX0_narrowTargets_90 : decode cX0_narrowTargets 90 = .ok (.goto (-86), 3) := by decide +kernel
theorem dX0_narrowTargets_93 : decode cX0_narrowTargets 93 = .ok (.iload_n 2, 1) := by decide +kernel
theorem dX0_narrowTargets_94 : decode cX0_narrowTargets 94 = .ok (.ireturn, 1) := by decide +kernel
theorem dX0_findDominators_0 : decode cX0_findDominators 0 = .ok (.aload_n 0, 1) := by decide +kernel
theorem dX0_findDominators_1 : decode cX0_findDominators 1 = .ok (.getfield 47, 3) := by decide +kernel
theorem dX0_findDominators_4 : decode cX0_findDominators 4 = .ok (.invokevirtual 64, 3) := by decide +kernel
theorem dX0_findDominators_7 : decode cX0_findDominators 7 = .ok (.lstore_n 1, 1) := by decide +kernel
theorem dX0_findDominators_8 : decode cX0_findDominators 8 = .ok (.iconst 0, 1) := by decide +kernel
theorem dX0_findDominators_9 : decode cX0_findDominators 9 = .ok (.istore_n 3, 1) := by decide +kernel
theorem dX0_findDominators_10 : decode cX0_findDominators 10 = .ok (.iload_n 3, 1) := by decide +kernel
theorem dX0_findDominators_11 : decode cX0_findDominators 11 = .ok (.bipush 40, 2) := by decide +kernel
theorem dX0_findDominators_13 : decode cX0_findDominators 13 = .ok (.if_icmp .ge 59, 3) := by decide +kernel
theorem dX0_findDominators_16 : decode cX0_findDominators 16 = .ok (.aload_n 0, 1) := by decide +kernel
theorem dX0_findDominators_17 : decode cX0_findDominators 17 = .ok (.getfield 12, 3) := by decide +kernel
theorem dX0_findDominators_20 : decode cX0_findDominators 20 = .ok (.getfield 72, 3) := by decide +kernel
theorem dX0_findDominators_23 : decode cX0_findDominators 23 = .ok (.iload_n 3, 1) := by decide +kernel
theorem dX0_findDominators_24 : decode cX0_findDominators 24 = .ok (.invokestatic 101, 3) := by decide +kernel
theorem dX0_findDominators_27 : decode cX0_findDominators 27 = .ok (.istore 4, 2) := by decide +kernel
theorem dX0_findDominators_29 : decode cX0_findDominators 29 = .ok (.aload_n 0, 1) := by decide +kernel
theorem dX0_findDominators_30 : decode cX0_findDominators 30 = .ok (.getfield 25, 3) := by decide +kernel
theorem dX0_findDominators_33 : decode cX0_findDominators 33 = .ok (.iload_n 3, 1) := by decide +kernel
theorem dX0_findDominators_34 : decode cX0_findDominators 34 = .ok (.lload_n 1, 1) := by decide +kernel
theorem dX0_findDominators_35 : decode cX0_findDominators 35 = .ok (.iload_n 3, 1) := by decide +kernel
theorem dX0_findDominators_36 : decode cX0_findDominators 36 = .ok (.invokestatic 101, 3) := by decide +kernel
theorem dX0_findDominators_39 : decode cX0_findDominators 39 = .ok (.ifCond .eq 10, 3) := by decide +kernel
theorem dX0_findDominators_42 : decode cX0_findDominators 42 = .ok (.iload_n 3, 1) := by decide +kernel
theorem dX0_findDominators_43 : decode cX0_findDominators 43 = .ok (.invokestatic 105, 3) := by decide +kernel
theorem dX0_findDominators_46 : decode cX0_findDominators 46 = .ok (.goto 19, 3) := by decide +kernel
theorem dX0_findDominators_49 : decode cX0_findDominators 49 = .ok (.iload 4, 2) := by decide +kernel
theorem dX0_findDominators_51 : decode cX0_findDominators 51 = .ok (.ifCond .eq 13, 3) := by decide +kernel
theorem dX0_findDominators_54 : decode cX0_findDominators 54 = .ok (.aload_n 0, 1) := by decide +kernel
theorem dX0_findDominators_55 : decode cX0_findDominators 55 = .ok (.getfield 12, 3) := by decide +kernel
theorem dX0_findDominators_58 : decode cX0_findDominators 58 = .ok (.getfield 72, 3) := by decide +kernel
theorem dX0_findDominators_61 : decode cX0_findDominators 61 = .ok (.goto 4, 3) := by decide +kernel
theorem dX0_findDominators_64 : decode cX0_findDominators 64 = .ok (.lconst 0, 1) := by decide +kernel
theorem dX0_findDominators_65 : decode cX0_findDominators 65 = .ok (.lastore, 1) := by decide +kernel
theorem dX0_findDominators_66 : decode cX0_findDominators 66 = .ok (.iinc 3 1, 3) := by decide +kernel
theorem dX0_findDominators_69 : decode cX0_findDominators 69 = .ok (.goto (-59), 3) := by decide +kernel
theorem dX0_findDominators_72 : decode cX0_findDominators 72 = .ok (.iconst 1, 1) := by decide +kernel
theorem dX0_findDominators_73 : decode cX0_findDominators 73 = .ok (.istore_n 3, 1) := by decide +kernel
theorem dX0_findDominators_74 : decode cX0_findDominators 74 = .ok (.iconst 0, 1) := by decide +kernel
theorem dX0_findDominators_75 : decode cX0_findDominators 75 = .ok (.istore 4, 2) := by decide +kernel
theorem dX0_findDominators_77 : decode cX0_findDominators 77 = .ok (.iload 4, 2) := by decide +kernel
theorem dX0_findDominators_79 : decode cX0_findDominators 79 = .ok (.bipush 40, 2) := by decide +kernel
theorem dX0_findDominators_81 : decode cX0_findDominators 81 = .ok (.if_icmp .gt 60, 3) := by decide +kernel
theorem dX0_findDominators_84 : decode cX0_findDominators 84 = .ok (.iload_n 3, 1) := by decide +kernel
theorem dX0_findDominators_85 : decode cX0_findDominators 85 = .ok (.ifCond .eq 56, 3) := by decide +kernel
theorem dX0_findDominators_88 : decode cX0_findDominators 88 = .ok (.iconst 0, 1) := by decide +kernel
theorem dX0_findDominators_89 : decode cX0_findDominators 89 = .ok (.istore_n 3, 1) := by decide +kernel
theorem dX0_findDominators_90 : decode cX0_findDominators 90 = .ok (.iconst 0, 1) := by decide +kernel
theorem dX0_findDominators_91 : decode cX0_findDominators 91 = .ok (.istore 5, 2) := by decide +kernel
theorem dX0_findDominators_93 : decode cX0_findDominators 93 = .ok (.iload 5, 2) := by decide +kernel
theorem dX0_findDominators_95 : decode cX0_findDominators 95 = .ok (.aload_n 0, 1) := by decide +kernel
theorem dX0_findDominators_96 : decode cX0_findDominators 96 = .ok (.getfield 12, 3) := by decide +kernel
theorem dX0_findDominators_99 : decode cX0_findDominators 99 = .ok (.getfield 109, 3) := by decide +kernel
theorem dX0_findDominators_102 : decode cX0_findDominators 102 = .ok (.if_icmp .ge 33, 3) := by decide +kernel
theorem dX0_findDominators_105 : decode cX0_findDominators 105 = .ok (.iload 5, 2) := by decide +kernel
theorem dX0_findDominators_107 : decode cX0_findDominators 107 = .ok (.bipush 40, 2) := by decide +kernel
theorem dX0_findDominators_109 : decode cX0_findDominators 109 = .ok (.if_icmp .ge 26, 3) := by decide +kernel
theorem dX0_findDominators_112 : decode cX0_findDominators 112 = .ok (.iload_n 3, 1) := by decide +kernel
theorem dX0_findDominators_113 : decode cX0_findDominators 113 = .ok (.aload_n 0, 1) := by decide +kernel
theorem dX0_findDominators_114 : decode cX0_findDominators 114 = .ok (.aload_n 0, 1) := by decide +kernel
theorem dX0_findDominators_115 : decode cX0_findDominators 115 = .ok (.getfield 12, 3) := by decide +kernel
theorem dX0_findDominators_118 : decode cX0_findDominators 118 = .ok (.getfield 112, 3) := by decide +kernel
theorem dX0_findDominators_121 : decode cX0_findDominators 121 = .ok (.iload 5, 2) := by decide +kernel
theorem dX0_findDominators_123 : decode cX0_findDominators 123 = .ok (.iaload, 1) := by decide +kernel
theorem dX0_findDominators_124 : decode cX0_findDominators 124 = .ok (.invokevirtual 115, 3) := by decide +kernel
theorem dX0_findDominators_127 : decode cX0_findDominators 127 = .ok (.ior, 1) := by decide +kernel
theorem dX0_findDominators_128 : decode cX0_findDominators 128 = .ok (.istore_n 3, 1) := by decide +kernel
theorem dX0_findDominators_129 : decode cX0_findDominators 129 = .ok (.iinc 5 1, 3) := by decide +kernel
theorem dX0_findDominators_132 : decode cX0_findDominators 132 = .ok (.goto (-39), 3) := by decide +kernel
theorem dX0_findDominators_135 : decode cX0_findDominators 135 = .ok (.iinc 4 1, 3) := by decide +kernel
theorem dX0_findDominators_138 : decode cX0_findDominators 138 = .ok (.goto (-61), 3) := by decide +kernel
theorem dX0_findDominators_141 : decode cX0_findDominators 141 = .ok (.return_, 1) := by decide +kernel
theorem dX0_findImmediate_0 : decode cX0_findImmediate 0 = .ok (.iconst 0, 1) := by decide +kernel
theorem dX0_findImmediate_1 : decode cX0_findImmediate 1 = .ok (.istore_n 1, 1) := by decide +kernel
theorem dX0_findImmediate_2 : decode cX0_findImmediate 2 = .ok (.iload_n 1, 1) := by decide +kernel
theorem dX0_findImmediate_3 : decode cX0_findImmediate 3 = .ok (.bipush 40, 2) := by decide +kernel
theorem dX0_findImmediate_5 : decode cX0_findImmediate 5 = .ok (.if_icmp .ge 80, 3) := by decide +kernel
theorem dX0_findImmediate_8 : decode cX0_findImmediate 8 = .ok (.aload_n 0, 1) := by decide +kernel
theorem dX0_findImmediate_9 : decode cX0_findImmediate 9 = .ok (.getfield 29, 3) := by decide +kernel
theorem dX0_findImmediate_12 : decode cX0_findImmediate 12 = .ok (.iload_n 1, 1) := by decide +kernel
theorem dX0_findImmediate_13 : decode cX0_findImmediate 13 = .ok (.iconst (-1), 1) := by decide +kernel
theorem dX0_findImmediate_14 : decode cX0_findImmediate 14 = .ok (.iastore, 1) := by decide +kernel
theorem dX0_findImmediate_15 : decode cX0_findImmediate 15 = .ok (.aload_n 0, 1) := by decide +kernel
theorem dX0_findImmediate_16 : decode cX0_findImmediate 16 = .ok (.getfield 25, 3) := by decide +kernel
theorem dX0_findImmediate_19 : decode cX0_findImmediate 19 = .ok (.iload_n 1, 1) := by decide +kernel
theorem dX0_findImmediate_20 : decode cX0_findImmediate 20 = .ok (.laload, 1) := by decide +kernel
theorem dX0_findImmediate_21 : decode cX0_findImmediate 21 = .ok (.invokestatic 119, 3) := by decide +kernel
theorem dX0_findImmediate_24 : decode cX0_findImmediate 24 = .ok (.istore_n 2, 1) := by decide +kernel
theorem dX0_findImmediate_25 : decode cX0_findImmediate 25 = .ok (.iconst 0, 1) := by decide +kernel
theorem dX0_findImmediate_26 : decode cX0_findImmediate 26 = .ok (.istore_n 3, 1) := by decide +kernel
theorem dX0_findImmediate_27 : decode cX0_findImmediate 27 = .ok (.iload_n 3, 1) := by decide +kernel
theorem dX0_findImmediate_28 : decode cX0_findImmediate 28 = .ok (.bipush 40, 2) := by decide +kernel
theorem dX0_findImmediate_30 : decode cX0_findImmediate 30 = .ok (.if_icmp .ge 49, 3) := by decide +kernel
theorem dX0_findImmediate_33 : decode cX0_findImmediate 33 = .ok (.iload_n 2, 1) := by decide +kernel
theorem dX0_findImmediate_34 : decode cX0_findImmediate 34 = .ok (.iconst 1, 1) := by decide +kernel
theorem dX0_findImmediate_35 : decode cX0_findImmediate 35 = .ok (.if_icmp .le 44, 3) := by decide +kernel
theorem dX0_findImmediate_38 : decode cX0_findImmediate 38 = .ok (.aload_n 0, 1) := by decide +kernel
theorem dX0_findImmediate_39 : decode cX0_findImmediate 39 = .ok (.getfield 25, 3) := by decide +kernel
theorem dX0_findImmediate_42 : decode cX0_findImmediate 42 = .ok (.iload_n 1, 1) := by decide +kernel
theorem dX0_findImmediate_43 : decode cX0_findImmediate 43 = .ok (.laload, 1) := by decide +kernel
theorem dX0_findImmediate_44 : decode cX0_findImmediate 44 = .ok (.iload_n 3, 1) := by decide +kernel
theorem dX0_findImmediate_45 : decode cX0_findImmediate 45 = .ok (.invokestatic 101, 3) := by decide +kernel
theorem dX0_findImmediate_48 : decode cX0_findImmediate 48 = .ok (.ifCond .eq 25, 3) := by decide +kernel
theorem dX0_findImmediate_51 : decode cX0_findImmediate 51 = .ok (.aload_n 0, 1) := by decide +kernel
theorem dX0_findImmediate_52 : decode cX0_findImmediate 52 = .ok (.getfield 25, 3) := by decide +kernel
theorem dX0_findImmediate_55 : decode cX0_findImmediate 55 = .ok (.iload_n 3, 1) := by decide +kernel
theorem dX0_findImmediate_56 : decode cX0_findImmediate 56 = .ok (.laload, 1) := by decide +kernel
theorem dX0_findImmediate_57 : decode cX0_findImmediate 57 = .ok (.invokestatic 119, 3) := by decide +kernel
theorem dX0_findImmediate_60 : decode cX0_findImmediate 60 = .ok (.iload_n 2, 1) := by decide +kernel
theorem dX0_findImmediate_61 : decode cX0_findImmediate 61 = .ok (.iconst 1, 1) := by decide +kernel
theorem dX0_findImmediate_62 : decode cX0_findImmediate 62 = .ok (.isub, 1) := by decide +kernel
theorem dX0_findImmediate_63 : decode cX0_findImmediate 63 = .ok (.if_icmp .ne 10, 3) := by decide +kernel
theorem dX0_findImmediate_66 : decode cX0_findImmediate 66 = .ok (.aload_n 0, 1) := by decide +kernel
theorem dX0_findImmediate_67 : decode cX0_findImmediate 67 = .ok (.getfield 29, 3) := by decide +kernel
theorem dX0_findImmediate_70 : decode cX0_findImmediate 70 = .ok (.iload_n 1, 1) := by decide +kernel
theorem dX0_findImmediate_71 : decode cX0_findImmediate 71 = .ok (.iload_n 3, 1) := by decide +kernel
theorem dX0_findImmediate_72 : decode cX0_findImmediate 72 = .ok (.iastore, 1) := by decide +kernel
theorem dX0_findImmediate_73 : decode cX0_findImmediate 73 = .ok (.iinc 3 1, 3) := by decide +kernel
theorem dX0_findImmediate_76 : decode cX0_findImmediate 76 = .ok (.goto (-49), 3) := by decide +kernel
theorem dX0_findImmediate_79 : decode cX0_findImmediate 79 = .ok (.iinc 1 1, 3) := by decide +kernel
theorem dX0_findImmediate_82 : decode cX0_findImmediate 82 = .ok (.goto (-80), 3) := by decide +kernel
theorem dX0_findImmediate_85 : decode cX0_findImmediate 85 = .ok (.return_, 1) := by decide +kernel
theorem dX0_dominatedBy_0 : decode cX0_dominatedBy 0 = .ok (.lconst 0, 1) := by decide +kernel
theorem dX0_dominatedBy_1 : decode cX0_dominatedBy 1 = .ok (.lstore_n 2, 1) := by decide +kernel
theorem dX0_dominatedBy_2 : decode cX0_dominatedBy 2 = .ok (.iconst 0, 1) := by decide +kernel
theorem dX0_dominatedBy_3 : decode cX0_dominatedBy 3 = .ok (.istore 4, 2) := by decide +kernel
theorem dX0_dominatedBy_5 : decode cX0_dominatedBy 5 = .ok (.iload 4, 2) := by decide +kernel
theorem dX0_dominatedBy_7 : decode cX0_dominatedBy 7 = .ok (.bipush 40, 2) := by decide +kernel
theorem dX0_dominatedBy_9 : decode cX0_dominatedBy 9 = .ok (.if_icmp .ge 35, 3) := by decide +kernel
theorem dX0_dominatedBy_12 : decode cX0_dominatedBy 12 = .ok (.lload_n 2, 1) := by decide +kernel
theorem dX0_dominatedBy_13 : decode cX0_dominatedBy 13 = .ok (.aload_n 0, 1) := by decide +kernel
theorem dX0_dominatedBy_14 : decode cX0_dominatedBy 14 = .ok (.getfield 25, 3) := by decide +kernel
theorem dX0_dominatedBy_17 : decode cX0_dominatedBy 17 = .ok (.iload 4, 2) := by decide +kernel
theorem dX0_dominatedBy_19 : decode cX0_dominatedBy 19 = .ok (.laload, 1) := by decide +kernel
theorem dX0_dominatedBy_20 : decode cX0_dominatedBy 20 = .ok (.iload_n 1, 1) := by decide +kernel
theorem dX0_dominatedBy_21 : decode cX0_dominatedBy 21 = .ok (.invokestatic 101, 3) := by decide +kernel
theorem dX0_dominatedBy_24 : decode cX0_dominatedBy 24 = .ok (.ifCond .eq 11, 3) := by decide +kernel
theorem dX0_dominatedBy_27 : decode cX0_dominatedBy 27 = .ok (.iload 4, 2) := by decide +kernel
theorem dX0_dominatedBy_29 : decode cX0_dominatedBy 29 = .ok (.invokestatic 105, 3) := by decide +kernel
theorem dX0_dominatedBy_32 : decode cX0_dominatedBy 32 = .ok (.goto 4, 3) := by decide +kernel
theorem dX0_dominatedBy_35 : decode cX0_dominatedBy 35 = .ok (.lconst 0, 1) := by decide +kernel
theorem dX0_dominatedBy_36 : decode cX0_dominatedBy 36 = .ok (.lor, 1) := by decide +kernel
theorem dX0_dominatedBy_37 : decode cX0_dominatedBy 37 = .ok (.lstore_n 2, 1) := by decide +kernel
theorem dX0_dominatedBy_38 : decode cX0_dominatedBy 38 = .ok (.iinc 4 1, 3) := by decide +kernel
theorem dX0_dominatedBy_41 : decode cX0_dominatedBy 41 = .ok (.goto (-36), 3) := by decide +kernel
theorem dX0_dominatedBy_44 : decode cX0_dominatedBy 44 = .ok (.lload_n 2, 1) := by decide +kernel
theorem dX0_dominatedBy_45 : decode cX0_dominatedBy 45 = .ok (.lreturn, 1) := by decide +kernel
theorem dX0_findRetained_0 : decode cX0_findRetained 0 = .ok (.iconst 0, 1) := by decide +kernel
theorem dX0_findRetained_1 : decode cX0_findRetained 1 = .ok (.istore_n 1, 1) := by decide +kernel
theorem dX0_findRetained_2 : decode cX0_findRetained 2 = .ok (.iload_n 1, 1) := by decide +kernel
theorem dX0_findRetained_3 : decode cX0_findRetained 3 = .ok (.bipush 40, 2) := by decide +kernel
theorem dX0_findRetained_5 : decode cX0_findRetained 5 = .ok (.if_icmp .ge 45, 3) := by decide +kernel
theorem dX0_findRetained_8 : decode cX0_findRetained 8 = .ok (.aload_n 0, 1) := by decide +kernel
theorem dX0_findRetained_9 : decode cX0_findRetained 9 = .ok (.getfield 32, 3) := by decide +kernel
theorem dX0_findRetained_12 : decode cX0_findRetained 12 = .ok (.iload_n 1, 1) := by decide +kernel
theorem dX0_findRetained_13 : decode cX0_findRetained 13 = .ok (.aload_n 0, 1) := by decide +kernel
theorem dX0_findRetained_14 : decode cX0_findRetained 14 = .ok (.getfield 12, 3) := by decide +kernel
theorem dX0_findRetained_17 : decode cX0_findRetained 17 = .ok (.getfield 72, 3) := by decide +kernel
theorem dX0_findRetained_20 : decode cX0_findRetained 20 = .ok (.iload_n 1, 1) := by decide +kernel
theorem dX0_findRetained_21 : decode cX0_findRetained 21 = .ok (.invokestatic 101, 3) := by decide +kernel
theorem dX0_findRetained_24 : decode cX0_findRetained 24 = .ok (.ifCond .eq 18, 3) := by decide +kernel
theorem dX0_findRetained_27 : decode cX0_findRetained 27 = .ok (.aload_n 0, 1) := by decide +kernel
theorem dX0_findRetained_28 : decode cX0_findRetained 28 = .ok (.getfield 47, 3) := by decide +kernel
theorem dX0_findRetained_31 : decode cX0_findRetained 31 = .ok (.aload_n 0, 1) := by decide +kernel
theorem dX0_findRetained_32 : decode cX0_findRetained 32 = .ok (.iload_n 1, 1) := by decide +kernel
theorem dX0_findRetained_33 : decode cX0_findRetained 33 = .ok (.invokevirtual 124, 3) := by decide +kernel
theorem dX0_findRetained_36 : decode cX0_findRetained 36 = .ok (.invokevirtual 76, 3) := by decide +kernel
theorem dX0_findRetained_39 : decode cX0_findRetained 39 = .ok (.goto 4, 3) := by decide +kernel
theorem dX0_findRetained_42 : decode cX0_findRetained 42 = .ok (.iconst 0, 1) := by decide +kernel
theorem dX0_findRetained_43 : decode cX0_findRetained 43 = .ok (.iastore, 1) := by decide +kernel
theorem dX0_findRetained_44 : decode cX0_findRetained 44 = .ok (.iinc 1 1, 3) := by decide +kernel
theorem dX0_findRetained_47 : decode cX0_findRetained 47 = .ok (.goto (-45), 3) := by decide +kernel
theorem dX0_findRetained_50 : decode cX0_findRetained 50 = .ok (.return_, 1) := by decide +kernel
theorem dX0_countReferences_0 : decode cX0_countReferences 0 = .ok (.aload_n 0, 1) := by decide +kernel
theorem dX0_countReferences_1 : decode cX0_countReferences 1 = .ok (.getfield 35, 3) := by decide +kernel
theorem dX0_countReferences_4 : decode cX0_countReferences 4 = .ok (.iconst 0, 1) := by decide +kernel
theorem dX0_countReferences_5 : decode cX0_countReferences 5 = .ok (.invokestatic 127, 3) := by decide +kernel
theorem dX0_countReferences_8 : decode cX0_countReferences 8 = .ok (.aload_n 0, 1) := by decide +kernel
theorem dX0_countReferences_9 : decode cX0_countReferences 9 = .ok (.getfield 38, 3) := by decide +kernel
theorem dX0_countReferences_12 : decode cX0_countReferences 12 = .ok (.iconst 0, 1) := by decide +kernel
theorem dX0_countReferences_13 : decode cX0_countReferences 13 = .ok (.invokestatic 127, 3) := by decide +kernel
theorem dX0_countReferences_16 : decode cX0_countReferences 16 = .ok (.iconst 0, 1) := by decide +kernel
theorem dX0_countReferences_17 : decode cX0_countReferences 17 = .ok (.istore_n 1, 1) := by decide +kernel
theorem dX0_countReferences_18 : decode cX0_countReferences 18 = .ok (.iload_n 1, 1) := by decide +kernel
theorem dX0_countReferences_19 : decode cX0_countReferences 19 = .ok (.sipush 320, 3) := by decide +kernel
theorem dX0_countReferences_22 : decode cX0_countReferences 22 = .ok (.if_icmp .ge 49, 3) := by decide +kernel
theorem dX0_countReferences_25 : decode cX0_countReferences 25 = .ok (.aload_n 0, 1) := by decide +kernel
theorem dX0_countReferences_26 : decode cX0_countReferences 26 = .ok (.getfield 21, 3) := by decide +kernel
theorem dX0_countReferences_29 : decode cX0_countReferences 29 = .ok (.iload_n 1, 1) := by decide +kernel
theorem dX0_countReferences_30 : decode cX0_countReferences 30 = .ok (.iaload, 1) := by decide +kernel
theorem dX0_countReferences_31 : decode cX0_countReferences 31 = .ok (.istore_n 2, 1) := by decide +kernel
theorem dX0_countReferences_32 : decode cX0_countReferences 32 = .ok (.iload_n 2, 1) := by decide +kernel
theorem dX0_countReferences_33 : decode cX0_countReferences 33 = .ok (.ifCond .lt 32, 3) := by decide +kernel
theorem dX0_countReferences_36 : decode cX0_countReferences 36 = .ok (.iload_n 2, 1) := by decide +kernel
theorem dX0_countReferences_37 : decode cX0_countReferences 37 = .ok (.bipush 40, 2) := by decide +kernel
theorem dX0_countReferences_39 : decode cX0_countReferences 39 = .ok (.if_icmp .ge 26, 3) := by decide +kernel
theorem dX0_countReferences_42 : decode cX0_countReferences 42 = .ok (.aload_n 0, 1) := by decide +kernel
theorem dX0_countReferences_43 : decode cX0_countReferences 43 = .ok (.getfield 35, 3) := by decide +kernel
theorem dX0_countReferences_46 : decode cX0_countReferences 46 = .ok (.iload_n 2, 1) := by decide +kernel
theorem dX0_countReferences_47 : decode cX0_countReferences 47 = .ok (.dup2, 1) := by decide +kernel
theorem dX0_countReferences_48 : decode cX0_countReferences 48 = .ok (.iaload, 1) := by decide +kernel
theorem dX0_countReferences_49 : decode cX0_countReferences 49 = .ok (.iconst 1, 1) := by decide +kernel
theorem dX0_countReferences_50 : decode cX0_countReferences 50 = .ok (.iadd, 1) := by decide +kernel
theorem dX0_countReferences_51 : decode cX0_countReferences 51 = .ok (.iastore, 1) := by decide +kernel
theorem dX0_countReferences_52 : decode cX0_countReferences 52 = .ok (.aload_n 0, 1) := by decide +kernel
theorem dX0_countReferences_53 : decode cX0_countReferences 53 = .ok (.getfield 38, 3) := by decide +kernel
theorem dX0_countReferences_56 : decode cX0_countReferences 56 = .ok (.iload_n 1, 1) := by decide +kernel
theorem dX0_countReferences_57 : decode cX0_countReferences 57 = .ok (.bipush 8, 2) := by decide +kernel
theorem dX0_countReferences_59 : decode cX0_countReferences 59 = .ok (.idiv, 1) := by decide +kernel
theorem dX0_countReferences_60 : decode cX0_countReferences 60 = .ok (.dup2, 1) := by decide +kernel
theorem dX0_countReferences_61 : decode cX0_countReferences 61 = .ok (.iaload, 1) := by decide +kernel
theorem dX0_countReferences_62 : decode cX0_countReferences 62 = .ok (.iconst 1, 1) := by decide +kernel
theorem dX0_countReferences_63 : decode cX0_countReferences 63 = .ok (.iadd, 1) := by decide +kernel
theorem dX0_countReferences_64 : decode cX0_countReferences 64 = .ok (.iastore, 1) := by decide +kernel
theorem dX0_countReferences_65 : decode cX0_countReferences 65 = .ok (.iinc 1 1, 3) := by decide +kernel
theorem dX0_countReferences_68 : decode cX0_countReferences 68 = .ok (.goto (-50), 3) := by decide +kernel
theorem dX0_countReferences_71 : decode cX0_countReferences 71 = .ok (.return_, 1) := by decide +kernel
theorem dX0_findLed_0 : decode cX0_findLed 0 = .ok (.aload_n 0, 1) := by decide +kernel
theorem dX0_findLed_1 : decode cX0_findLed 1 = .ok (.getfield 47, 3) := by decide +kernel
theorem dX0_findLed_4 : decode cX0_findLed 4 = .ok (.invokevirtual 133, 3) := by decide +kernel
theorem dX0_findLed_7 : decode cX0_findLed 7 = .ok (.lstore_n 1, 1) := by decide +kernel
theorem dX0_findLed_8 : decode cX0_findLed 8 = .ok (.iconst 0, 1) := by decide +kernel
theorem dX0_findLed_9 : decode cX0_findLed 9 = .ok (.istore_n 3, 1) := by decide +kernel
theorem dX0_findLed_10 : decode cX0_findLed 10 = .ok (.iload_n 3, 1) := by decide +kernel
theorem dX0_findLed_11 : decode cX0_findLed 11 = .ok (.bipush 40, 2) := by decide +kernel
theorem dX0_findLed_13 : decode cX0_findLed 13 = .ok (.if_icmp .ge 41, 3) := by decide +kernel
theorem dX0_findLed_16 : decode cX0_findLed 16 = .ok (.aload_n 0, 1) := by decide +kernel
theorem dX0_findLed_17 : decode cX0_findLed 17 = .ok (.getfield 41, 3) := by decide +kernel
theorem dX0_findLed_20 : decode cX0_findLed 20 = .ok (.iload_n 3, 1) := by decide +kernel
theorem dX0_findLed_21 : decode cX0_findLed 21 = .ok (.lload_n 1, 1) := by decide +kernel
theorem dX0_findLed_22 : decode cX0_findLed 22 = .ok (.iload_n 3, 1) := by decide +kernel
theorem dX0_findLed_23 : decode cX0_findLed 23 = .ok (.invokestatic 101, 3) := by decide +kernel
theorem dX0_findLed_26 : decode cX0_findLed 26 = .ok (.ifCond .eq 20, 3) := by decide +kernel
theorem dX0_findLed_29 : decode cX0_findLed 29 = .ok (.iload_n 3, 1) := by decide +kernel
theorem dX0_findLed_30 : decode cX0_findLed 30 = .ok (.invokestatic 105, 3) := by decide +kernel
theorem dX0_findLed_33 : decode cX0_findLed 33 = .ok (.aload_n 0, 1) := by decide +kernel
theorem dX0_findLed_34 : decode cX0_findLed 34 = .ok (.getfield 21, 3) := by decide +kernel
theorem dX0_findLed_37 : decode cX0_findLed 37 = .ok (.iload_n 3, 1) := by decide +kernel
theorem dX0_findLed_38 : decode cX0_findLed 38 = .ok (.iconst (-1), 1) := by decide +kernel
theorem dX0_findLed_39 : decode cX0_findLed 39 = .ok (.invokestatic 136, 3) := by decide +kernel
theorem dX0_findLed_42 : decode cX0_findLed 42 = .ok (.lor, 1) := by decide +kernel
theorem dX0_findLed_43 : decode cX0_findLed 43 = .ok (.goto 4, 3) := by decide +kernel
theorem dX0_findLed_46 : decode cX0_findLed 46 = .ok (.lconst 0, 1) := by decide +kernel
theorem dX0_findLed_47 : decode cX0_findLed 47 = .ok (.lastore, 1) := by decide +kernel
theorem dX0_findLed_48 : decode cX0_findLed 48 = .ok (.iinc 3 1, 3) := by decide +kernel
theorem dX0_findLed_51 : decode cX0_findLed 51 = .ok (.goto (-41), 3) := by decide +kernel
theorem dX0_findLed_54 : decode cX0_findLed 54 = .ok (.iconst 0, 1) := by decide +kernel
theorem dX0_findLed_55 : decode cX0_findLed 55 = .ok (.istore_n 3, 1) := by decide +kernel
theorem dX0_findLed_56 : decode cX0_findLed 56 = .ok (.iload_n 3, 1) := by decide +kernel
theorem dX0_findLed_57 : decode cX0_findLed 57 = .ok (.bipush 40, 2) := by decide +kernel
theorem dX0_findLed_59 : decode cX0_findLed 59 = .ok (.if_icmp .ge 66, 3) := by decide +kernel
theorem dX0_findLed_62 : decode cX0_findLed 62 = .ok (.iconst 0, 1) := by decide +kernel
theorem dX0_findLed_63 : decode cX0_findLed 63 = .ok (.istore 4, 2) := by decide +kernel
theorem dX0_findLed_65 : decode cX0_findLed 65 = .ok (.iload 4, 2) := by decide +kernel
theorem dX0_findLed_67 : decode cX0_findLed 67 = .ok (.bipush 40, 2) := by decide +kernel
theorem dX0_findLed_69 : decode cX0_findLed 69 = .ok (.if_icmp .ge 50, 3) := by decide +kernel
theorem dX0_findLed_72 : decode cX0_findLed 72 = .ok (.aload_n 0, 1) := by decide +kernel
theorem dX0_findLed_73 : decode cX0_findLed 73 = .ok (.getfield 41, 3) := by decide +kernel
theorem dX0_findLed_76 : decode cX0_findLed 76 = .ok (.iload_n 3, 1) := by decide +kernel
theorem dX0_findLed_77 : decode cX0_findLed 77 = .ok (.laload, 1) := by decide +kernel
theorem dX0_findLed_78 : decode cX0_findLed 78 = .ok (.lconst 0, 1) := by decide +kernel
theorem dX0_findLed_79 : decode cX0_findLed 79 = .ok (.lcmp, 1) := by decide +kernel
theorem dX0_findLed_80 : decode cX0_findLed 80 = .ok (.ifCond .eq 39, 3) := by decide +kernel
theorem dX0_findLed_83 : decode cX0_findLed 83 = .ok (.aload_n 0, 1) := by decide +kernel
theorem dX0_findLed_84 : decode cX0_findLed 84 = .ok (.getfield 41, 3) := by decide +kernel
theorem dX0_findLed_87 : decode cX0_findLed 87 = .ok (.iload 4, 2) := by decide +kernel
theorem dX0_findLed_89 : decode cX0_findLed 89 = .ok (.laload, 1) := by decide +kernel
theorem dX0_findLed_90 : decode cX0_findLed 90 = .ok (.iload_n 3, 1) := by decide +kernel
theorem dX0_findLed_91 : decode cX0_findLed 91 = .ok (.invokestatic 101, 3) := by decide +kernel
theorem dX0_findLed_94 : decode cX0_findLed 94 = .ok (.ifCond .eq 19, 3) := by decide +kernel
theorem dX0_findLed_97 : decode cX0_findLed 97 = .ok (.aload_n 0, 1) := by decide +kernel
theorem dX0_findLed_98 : decode cX0_findLed 98 = .ok (.getfield 41, 3) := by decide +kernel
theorem dX0_findLed_101 : decode cX0_findLed 101 = .ok (.iload 4, 2) := by decide +kernel
theorem dX0_findLed_103 : decode cX0_findLed 103 = .ok (.dup2, 1) := by decide +kernel
theorem dX0_findLed_104 : decode cX0_findLed 104 = .ok (.laload, 1) := by decide +kernel
theorem dX0_findLed_105 : decode cX0_findLed 105 = .ok (.aload_n 0, 1) := by decide +kernel
theorem dX0_findLed_106 : decode cX0_findLed 106 = .ok (.getfield 41, 3) := by decide +kernel
theorem dX0_findLed_109 : decode cX0_findLed 109 = .ok (.iload_n 3, 1) := by decide +kernel
theorem dX0_findLed_110 : decode cX0_findLed 110 = .ok (.laload, 1) := by decide +kernel
theorem dX0_findLed_111 : decode cX0_findLed 111 = .ok (.lor, 1) := by decide +kernel
theorem dX0_findLed_112 : decode cX0_findLed 112 = .ok (.lastore, 1) := by decide +kernel
theorem dX0_findLed_113 : decode cX0_findLed 113 = .ok (.iinc 4 1, 3) := by decide +kernel
theorem dX0_findLed_116 : decode cX0_findLed 116 = .ok (.goto (-51), 3) := by decide +kernel
theorem dX0_findLed_119 : decode cX0_findLed 119 = .ok (.iinc 3 1, 3) := by decide +kernel
theorem dX0_findLed_122 : decode cX0_findLed 122 = .ok (.goto (-66), 3) := by decide +kernel
theorem dX0_findLed_125 : decode cX0_findLed 125 = .ok (.return_, 1) := by decide +kernel
theorem dX0_findComponents_0 : decode cX0_findComponents 0 = .ok (.iconst 0, 1) := by decide +kernel
theorem dX0_findComponents_1 : decode cX0_findComponents 1 = .ok (.istore_n 1, 1) := by decide +kernel
theorem dX0_findComponents_2 : decode cX0_findComponents 2 = .ok (.iload_n 1, 1) := by decide +kernel
theorem dX0_findComponents_3 : decode cX0_findComponents 3 = .ok (.bipush 40, 2) := by decide +kernel
theorem dX0_findComponents_5 : decode cX0_findComponents 5 = .ok (.if_icmp .ge 64, 3) := by decide +kernel
theorem dX0_findComponents_8 : decode cX0_findComponents 8 = .ok (.iconst (-1), 1) := by decide +kernel
theorem dX0_findComponents_9 : decode cX0_findComponents 9 = .ok (.istore_n 2, 1) := by decide +kernel
theorem dX0_findComponents_10 : decode cX0_findComponents 10 = .ok (.iconst 0, 1) := by decide +kernel
theorem dX0_findComponents_11 : decode cX0_findComponents 11 = .ok (.istore_n 3, 1) := by decide +kernel
theorem dX0_findComponents_12 : decode cX0_findComponents 12 = .ok (.iload_n 3, 1) := by decide +kernel
theorem dX0_findComponents_13 : decode cX0_findComponents 13 = .ok (.iload_n 1, 1) := by decide +kernel
theorem dX0_findComponents_14 : decode cX0_findComponents 14 = .ok (.if_icmp .gt 42, 3) := by decide +kernel
theorem dX0_findComponents_17 : decode cX0_findComponents 17 = .ok (.iload_n 2, 1) := by decide +kernel
theorem dX0_findComponents_18 : decode cX0_findComponents 18 = .ok (.iconst (-1), 1) := by decide +kernel
theorem dX0_findComponents_19 : decode cX0_findComponents 19 = .ok (.if_icmp .ne 37, 3) := by decide +kernel
theorem dX0_findComponents_22 : decode cX0_findComponents 22 = .ok (.aload_n 0, 1) := by decide +kernel
theorem dX0_findComponents_23 : decode cX0_findComponents 23 = .ok (.getfield 41, 3) := by decide +kernel
theorem dX0_findComponents_26 : decode cX0_findComponents 26 = .ok (.iload_n 1, 1) := by decide +kernel
theorem dX0_findComponents_27 : decode cX0_findComponents 27 = .ok (.laload, 1) := by decide +kernel
theorem dX0_findComponents_28 : decode cX0_findComponents 28 = .ok (.iload_n 3, 1) := by decide +kernel
theorem dX0_findComponents_29 : decode cX0_findComponents 29 = .ok (.invokestatic 101, 3) := by decide +kernel
theorem dX0_findComponents_32 : decode cX0_findComponents 32 = .ok (.ifCond .eq 18, 3) := by decide +kernel
theorem dX0_findComponents_35 : decode cX0_findComponents 35 = .ok (.aload_n 0, 1) := by decide +kernel
theorem dX0_findComponents_36 : decode cX0_findComponents 36 = .ok (.getfield 41, 3) := by decide +kernel
theorem dX0_findComponents_39 : decode cX0_findComponents 39 = .ok (.iload_n 3, 1) := by decide +kernel
theorem dX0_findComponents_40 : decode cX0_findComponents 40 = .ok (.laload, 1) := by decide +kernel
theorem dX0_findComponents_41 : decode cX0_findComponents 41 = .ok (.iload_n 1, 1) := by decide +kernel
theorem dX0_findComponents_42 : decode cX0_findComponents 42 = .ok (.invokestatic 101, 3) := by decide +kernel
theorem dX0_findComponents_45 : decode cX0_findComponents 45 = .ok (.ifCond .eq 5, 3) := by decide +kernel
theorem dX0_findComponents_48 : decode cX0_findComponents 48 = .ok (.iload_n 3, 1) := by decide +kernel
theorem dX0_findComponents_49 : decode cX0_findComponents 49 = .ok (.istore_n 2, 1) := by decide +kernel
theorem dX0_findComponents_50 : decode cX0_findComponents 50 = .ok (.iinc 3 1, 3) := by decide +kernel
theorem dX0_findComponents_53 : decode cX0_findComponents 53 = .ok (.goto (-41), 3) := by decide +kernel
theorem dX0_findComponents_56 : decode cX0_findComponents 56 = .ok (.aload_n 0, 1) := by decide +kernel
theorem dX0_findComponents_57 : decode cX0_findComponents 57 = .ok (.getfield 44, 3) := by decide +kernel
theorem dX0_findComponents_60 : decode cX0_findComponents 60 = .ok (.iload_n 1, 1) := by decide +kernel
theorem dX0_findComponents_61 : decode cX0_findComponents 61 = .ok (.iload_n 2, 1) := by decide +kernel
theorem dX0_findComponents_62 : decode cX0_findComponents 62 = .ok (.iastore, 1) := by decide +kernel
theorem dX0_findComponents_63 : decode cX0_findComponents 63 = .ok (.iinc 1 1, 3) := by decide +kernel
theorem dX0_findComponents_66 : decode cX0_findComponents 66 = .ok (.goto (-64), 3) := by decide +kernel
theorem dX0_findComponents_69 : decode cX0_findComponents 69 = .ok (.return_, 1) := by decide +kernel
theorem dX0_refresh_0 : decode cX0_refresh 0 = .ok (.aload_n 0, 1) := by decide +kernel
theorem dX0_refresh_1 : decode cX0_refresh 1 = .ok (.getfield 51, 3) := by decide +kernel
theorem dX0_refresh_4 : decode cX0_refresh 4 = .ok (.aload_n 0, 1) := by decide +kernel
theorem dX0_refresh_5 : decode cX0_refresh 5 = .ok (.getfield 47, 3) := by decide +kernel
theorem dX0_refresh_8 : decode cX0_refresh 8 = .ok (.getfield 55, 3) := by decide +kernel
theorem dX0_refresh_11 : decode cX0_refresh 11 = .ok (.if_icmp .ne 4, 3) := by decide +kernel
theorem dX0_refresh_14 : decode cX0_refresh 14 = .ok (.return_, 1) := by decide +kernel
theorem dX0_refresh_15 : decode cX0_refresh 15 = .ok (.aload_n 0, 1) := by decide +kernel
theorem dX0_refresh_16 : decode cX0_refresh 16 = .ok (.aload_n 0, 1) := by decide +kernel
theorem dX0_refresh_17 : decode cX0_refresh 17 = .ok (.getfield 47, 3) := by decide +kernel
theorem dX0_refresh_20 : decode cX0_refresh 20 = .ok (.getfield 55, 3) := by decide +kernel
theorem dX0_refresh_23 : decode cX0_refresh 23 = .ok (.putfield 51, 3) := by decide +kernel
theorem dX0_refresh_26 : decode cX0_refresh 26 = .ok (.aload_n 0, 1) := by decide +kernel
theorem dX0_refresh_27 : decode cX0_refresh 27 = .ok (.getfield 47, 3) := by decide +kernel
theorem dX0_refresh_30 : decode cX0_refresh 30 = .ok (.aload_n 0, 1) := by decide +kernel
theorem dX0_refresh_31 : decode cX0_refresh 31 = .ok (.getfield 21, 3) := by decide +kernel
theorem dX0_refresh_34 : decode cX0_refresh 34 = .ok (.invokevirtual 60, 3) := by decide +kernel
theorem dX0_refresh_37 : decode cX0_refresh 37 = .ok (.aload_n 0, 1) := by decide +kernel
theorem dX0_refresh_38 : decode cX0_refresh 38 = .ok (.getfield 12, 3) := by decide +kernel
theorem dX0_refresh_41 : decode cX0_refresh 41 = .ok (.aload_n 0, 1) := by decide +kernel
theorem dX0_refresh_42 : decode cX0_refresh 42 = .ok (.getfield 21, 3) := by decide +kernel
theorem dX0_refresh_45 : decode cX0_refresh 45 = .ok (.aload_n 0, 1) := by decide +kernel
theorem dX0_refresh_46 : decode cX0_refresh 46 = .ok (.getfield 47, 3) := by decide +kernel
theorem dX0_refresh_49 : decode cX0_refresh 49 = .ok (.invokevirtual 64, 3) := by decide +kernel
theorem dX0_refresh_52 : decode cX0_refresh 52 = .ok (.lconst 0, 1) := by decide +kernel
theorem dX0_refresh_53 : decode cX0_refresh 53 = .ok (.iconst (-1), 1) := by decide +kernel
theorem dX0_refresh_54 : decode cX0_refresh 54 = .ok (.invokevirtual 68, 3) := by decide +kernel
theorem dX0_refresh_57 : decode cX0_refresh 57 = .ok (.aload_n 0, 1) := by decide +kernel
theorem dX0_refresh_58 : decode cX0_refresh 58 = .ok (.aload_n 0, 1) := by decide +kernel
theorem dX0_refresh_59 : decode cX0_refresh 59 = .ok (.getfield 47, 3) := by decide +kernel
theorem dX0_refresh_62 : decode cX0_refresh 62 = .ok (.aload_n 0, 1) := by decide +kernel
theorem dX0_refresh_63 : decode cX0_refresh 63 = .ok (.getfield 12, 3) := by decide +kernel
theorem dX0_refresh_66 : decode cX0_refresh 66 = .ok (.getfield 72, 3) := by decide +kernel
theorem dX0_refresh_69 : decode cX0_refresh 69 = .ok (.invokevirtual 76, 3) := by decide +kernel
theorem dX0_refresh_72 : decode cX0_refresh 72 = .ok (.putfield 80, 3) := by decide +kernel
theorem dX0_refresh_75 : decode cX0_refresh 75 = .ok (.aload_n 0, 1) := by decide +kernel
theorem dX0_refresh_76 : decode cX0_refresh 76 = .ok (.invokevirtual 83, 3) := by decide +kernel
theorem dX0_refresh_79 : decode cX0_refresh 79 = .ok (.aload_n 0, 1) := by decide +kernel
theorem dX0_refresh_80 : decode cX0_refresh 80 = .ok (.invokevirtual 86, 3) := by decide +kernel
theorem dX0_refresh_83 : decode cX0_refresh 83 = .ok (.aload_n 0, 1) := by decide +kernel
theorem dX0_refresh_84 : decode cX0_refresh 84 = .ok (.invokevirtual 89, 3) := by decide +kernel
theorem dX0_refresh_87 : decode cX0_refresh 87 = .ok (.aload_n 0, 1) := by decide +kernel
theorem dX0_refresh_88 : decode cX0_refresh 88 = .ok (.invokevirtual 92, 3) := by decide +kernel
theorem dX0_refresh_91 : decode cX0_refresh 91 = .ok (.aload_n 0, 1) := by decide +kernel
theorem dX0_refresh_92 : decode cX0_refresh 92 = .ok (.invokevirtual 95, 3) := by decide +kernel
theorem dX0_refresh_95 : decode cX0_refresh 95 = .ok (.aload_n 0, 1) := by decide +kernel
theorem dX0_refresh_96 : decode cX0_refresh 96 = .ok (.invokevirtual 98, 3) := by decide +kernel
theorem dX0_refresh_99 : decode cX0_refresh 99 = .ok (.return_, 1) := by decide +kernel
theorem dX0_sizeOfComponent_0 : decode cX0_sizeOfComponent 0 = .ok (.iconst 0, 1) := by decide +kernel
theorem dX0_sizeOfComponent_1 : decode cX0_sizeOfComponent 1 = .ok (.istore_n 2, 1) := by decide +kernel
theorem dX0_sizeOfComponent_2 : decode cX0_sizeOfComponent 2 = .ok (.iconst 0, 1) := by decide +kernel
theorem dX0_sizeOfComponent_3 : decode cX0_sizeOfComponent 3 = .ok (.istore_n 3, 1) := by decide +kernel
theorem dX0_sizeOfComponent_4 : decode cX0_sizeOfComponent 4 = .ok (.iload_n 3, 1) := by decide +kernel
theorem dX0_sizeOfComponent_5 : decode cX0_sizeOfComponent 5 = .ok (.bipush 40, 2) := by decide +kernel
theorem dX0_sizeOfComponent_7 : decode cX0_sizeOfComponent 7 = .ok (.if_icmp .ge 32, 3) := by decide +kernel
theorem dX0_sizeOfComponent_10 : decode cX0_sizeOfComponent 10 = .ok (.iload_n 2, 1) := by decide +kernel
theorem dX0_sizeOfComponent_11 : decode cX0_sizeOfComponent 11 = .ok (.aload_n 0, 1) := by decide +kernel
theorem dX0_sizeOfComponent_12 : decode cX0_sizeOfComponent 12 = .ok (.getfield 44, 3) := by decide +kernel
theorem dX0_sizeOfComponent_15 : decode cX0_sizeOfComponent 15 = .ok (.iload_n 3, 1) := by decide +kernel
theorem dX0_sizeOfComponent_16 : decode cX0_sizeOfComponent 16 = .ok (.iaload, 1) := by decide +kernel
theorem dX0_sizeOfComponent_17 : decode cX0_sizeOfComponent 17 = .ok (.aload_n 0, 1) := by decide +kernel
theorem dX0_sizeOfComponent_18 : decode cX0_sizeOfComponent 18 = .ok (.getfield 44, 3) := by decide +kernel
theorem dX0_sizeOfComponent_21 : decode cX0_sizeOfComponent 21 = .ok (.iload_n 1, 1) := by decide +kernel
theorem dX0_sizeOfComponent_22 : decode cX0_sizeOfComponent 22 = .ok (.iaload, 1) := by decide +kernel
theorem dX0_sizeOfComponent_23 : decode cX0_sizeOfComponent 23 = .ok (.if_icmp .ne 7, 3) := by decide +kernel
theorem dX0_sizeOfComponent_26 : decode cX0_sizeOfComponent 26 = .ok (.iconst 1, 1) := by decide +kernel
theorem dX0_sizeOfComponent_27 : decode cX0_sizeOfComponent 27 = .ok (.goto 4, 3) := by decide +kernel
theorem dX0_sizeOfComponent_30 : decode cX0_sizeOfComponent 30 = .ok (.iconst 0, 1) := by decide +kernel
theorem dX0_sizeOfComponent_31 : decode cX0_sizeOfComponent 31 = .ok (.iadd, 1) := by decide +kernel
theorem dX0_sizeOfComponent_32 : decode cX0_sizeOfComponent 32 = .ok (.istore_n 2, 1) := by decide +kernel
theorem dX0_sizeOfComponent_33 : decode cX0_sizeOfComponent 33 = .ok (.iinc 3 1, 3) := by decide +kernel
theorem dX0_sizeOfComponent_36 : decode cX0_sizeOfComponent 36 = .ok (.goto (-32), 3) := by decide +kernel
theorem dX0_sizeOfComponent_39 : decode cX0_sizeOfComponent 39 = .ok (.iload_n 2, 1) := by decide +kernel
theorem dX0_sizeOfComponent_40 : decode cX0_sizeOfComponent 40 = .ok (.ireturn, 1) := by decide +kernel
theorem dX0_removeGarbage_0 : decode cX0_removeGarbage 0 = .ok (.aload_n 0, 1) := by decide +kernel
theorem dX0_removeGarbage_1 : decode cX0_removeGarbage 1 = .ok (.invokevirtual 140, 3) := by decide +kernel
theorem dX0_removeGarbage_4 : decode cX0_removeGarbage 4 = .ok (.aload_n 0, 1) := by decide +kernel
theorem dX0_removeGarbage_5 : decode cX0_removeGarbage 5 = .ok (.getfield 47, 3) := by decide +kernel
theorem dX0_removeGarbage_8 : decode cX0_removeGarbage 8 = .ok (.aload_n 0, 1) := by decide +kernel
theorem dX0_removeGarbage_9 : decode cX0_removeGarbage 9 = .ok (.getfield 12, 3) := by decide +kernel
theorem dX0_removeGarbage_12 : decode cX0_removeGarbage 12 = .ok (.getfield 72, 3) := by decide +kernel
theorem dX0_removeGarbage_15 : decode cX0_removeGarbage 15 = .ok (.invokevirtual 143, 3) := by decide +kernel
theorem dX0_removeGarbage_18 : decode cX0_removeGarbage 18 = .ok (.ireturn, 1) := by decide +kernel
theorem dX0_children_0 : decode cX0_children 0 = .ok (.lconst 0, 1) := by decide +kernel
theorem dX0_children_1 : decode cX0_children 1 = .ok (.lstore_n 2, 1) := by decide +kernel
theorem dX0_children_2 : decode cX0_children 2 = .ok (.iconst 0, 1) := by decide +kernel
theorem dX0_children_3 : decode cX0_children 3 = .ok (.istore 4, 2) := by decide +kernel
theorem dX0_children_5 : decode cX0_children 5 = .ok (.iload 4, 2) := by decide +kernel
theorem dX0_children_7 : decode cX0_children 7 = .ok (.bipush 40, 2) := by decide +kernel
theorem dX0_children_9 : decode cX0_children 9 = .ok (.if_icmp .ge 59, 3) := by decide +kernel
theorem dX0_children_12 : decode cX0_children 12 = .ok (.aload_n 0, 1) := by decide +kernel
theorem dX0_children_13 : decode cX0_children 13 = .ok (.getfield 12, 3) := by decide +kernel
theorem dX0_children_16 : decode cX0_children 16 = .ok (.getfield 72, 3) := by decide +kernel
theorem dX0_children_19 : decode cX0_children 19 = .ok (.iload 4, 2) := by decide +kernel
theorem dX0_children_21 : decode cX0_children 21 = .ok (.invokestatic 101, 3) := by decide +kernel
theorem dX0_children_24 : decode cX0_children 24 = .ok (.ifCond .eq 18, 3) := by decide +kernel
theorem dX0_children_27 : decode cX0_children 27 = .ok (.aload_n 0, 1) := by decide +kernel
theorem dX0_children_28 : decode cX0_children 28 = .ok (.getfield 29, 3) := by decide +kernel
theorem dX0_children_31 : decode cX0_children 31 = .ok (.iload 4, 2) := by decide +kernel
theorem dX0_children_33 : decode cX0_children 33 = .ok (.iaload, 1) := by decide +kernel
theorem dX0_children_34 : decode cX0_children 34 = .ok (.iload_n 1, 1) := by decide +kernel
theorem dX0_children_35 : decode cX0_children 35 = .ok (.if_icmp .ne 7, 3) := by decide +kernel
theorem dX0_children_38 : decode cX0_children 38 = .ok (.iconst 1, 1) := by decide +kernel
theorem dX0_children_39 : decode cX0_children 39 = .ok (.goto 4, 3) := by decide +kernel
theorem dX0_children_42 : decode cX0_children 42 = .ok (.iconst 0, 1) := by decide +kernel
theorem dX0_children_43 : decode cX0_children 43 = .ok (.istore 5, 2) := by decide +kernel
theorem dX0_children_45 : decode cX0_children 45 = .ok (.lload_n 2, 1) := by decide +kernel
theorem dX0_children_46 : decode cX0_children 46 = .ok (.iload 5, 2) := by decide +kernel
theorem dX0_children_48 : decode cX0_children 48 = .ok (.ifCond .eq 11, 3) := by decide +kernel
theorem dX0_children_51 : decode cX0_children 51 = .ok (.iload 4, 2) := by decide +kernel
theorem dX0_children_53 : decode cX0_children 53 = .ok (.invokestatic 105, 3) := by decide +kernel
theorem dX0_children_56 : decode cX0_children 56 = .ok (.goto 4, 3) := by decide +kernel
theorem dX0_children_59 : decode cX0_children 59 = .ok (.lconst 0, 1) := by decide +kernel
theorem dX0_children_60 : decode cX0_children 60 = .ok (.lor, 1) := by decide +kernel
theorem dX0_children_61 : decode cX0_children 61 = .ok (.lstore_n 2, 1) := by decide +kernel
theorem dX0_children_62 : decode cX0_children 62 = .ok (.iinc 4 1, 3) := by decide +kernel
theorem dX0_children_65 : decode cX0_children 65 = .ok (.goto (-60), 3) := by decide +kernel
theorem dX0_children_68 : decode cX0_children 68 = .ok (.lload_n 2, 1) := by decide +kernel
theorem dX0_children_69 : decode cX0_children 69 = .ok (.lreturn, 1) := by decide +kernel
theorem dX0_lostByTrial_0 : decode cX0_lostByTrial 0 = .ok (.aload_n 0, 1) := by decide +kernel
theorem dX0_lostByTrial_1 : decode cX0_lostByTrial 1 = .ok (.getfield 47, 3) := by decide +kernel
theorem dX0_lostByTrial_4 : decode cX0_lostByTrial 4 = .ok (.aload_n 0, 1) := by decide +kernel
theorem dX0_lostByTrial_5 : decode cX0_lostByTrial 5 = .ok (.getfield 12, 3) := by decide +kernel
theorem dX0_lostByTrial_8 : decode cX0_lostByTrial 8 = .ok (.getfield 72, 3) := by decide +kernel
theorem dX0_lostByTrial_11 : decode cX0_lostByTrial 11 = .ok (.aload_n 0, 1) := by decide +kernel
theorem dX0_lostByTrial_12 : decode cX0_lostByTrial 12 = .ok (.getfield 18, 3) := by decide +kernel
theorem dX0_lostByTrial_15 : decode cX0_lostByTrial 15 = .ok (.getfield 72, 3) := by decide +kernel
theorem dX0_lostByTrial_18 : decode cX0_lostByTrial 18 = .ok (.ldc2_w 150, 3) := by decide +kernel
theorem dX0_lostByTrial_21 : decode cX0_lostByTrial 21 = .ok (.lxor, 1) := by decide +kernel
theorem dX0_lostByTrial_22 : decode cX0_lostByTrial 22 = .ok (.land, 1) := by decide +kernel
theorem dX0_lostByTrial_23 : decode cX0_lostByTrial 23 = .ok (.invokevirtual 76, 3) := by decide +kernel
theorem dX0_lostByTrial_26 : decode cX0_lostByTrial 26 = .ok (.ireturn, 1) := by decide +kernel
theorem dX0_lostWithoutSlot_0 : decode cX0_lostWithoutSlot 0 = .ok (.aload_n 0, 1) := by decide +kernel
theorem dX0_lostWithoutSlot_1 : decode cX0_lostWithoutSlot 1 = .ok (.getfield 18, 3) := by decide +kernel
theorem dX0_lostWithoutSlot_4 : decode cX0_lostWithoutSlot 4 = .ok (.aload_n 0, 1) := by decide +kernel
theorem dX0_lostWithoutSlot_5 : decode cX0_lostWithoutSlot 5 = .ok (.getfield 21, 3) := by decide +kernel
theorem dX0_lostWithoutSlot_8 : decode cX0_lostWithoutSlot 8 = .ok (.aload_n 0, 1) := by decide +kernel
theorem dX0_lostWithoutSlot_9 : decode cX0_lostWithoutSlot 9 = .ok (.getfield 47, 3) := by decide +kernel
theorem dX0_lostWithoutSlot_12 : decode cX0_lostWithoutSlot 12 = .ok (.invokevirtual 64, 3) := by decide +kernel
theorem dX0_lostWithoutSlot_15 : decode cX0_lostWithoutSlot 15 = .ok (.lconst 0, 1) := by decide +kernel
theorem dX0_lostWithoutSlot_16 : decode cX0_lostWithoutSlot 16 = .ok (.iload_n 1, 1) := by decide +kernel
theorem dX0_lostWithoutSlot_17 : decode cX0_lostWithoutSlot 17 = .ok (.bipush 8, 2) := by decide +kernel
theorem dX0_lostWithoutSlot_19 : decode cX0_lostWithoutSlot 19 = .ok (.imul, 1) := by decide +kernel
theorem dX0_lostWithoutSlot_20 : decode cX0_lostWithoutSlot 20 = .ok (.iload_n 2, 1) := by decide +kernel
theorem dX0_lostWithoutSlot_21 : decode cX0_lostWithoutSlot 21 = .ok (.iadd, 1) := by decide +kernel
theorem dX0_lostWithoutSlot_22 : decode cX0_lostWithoutSlot 22 = .ok (.invokevirtual 68, 3) := by decide +kernel
theorem dX0_lostWithoutSlot_25 : decode cX0_lostWithoutSlot 25 = .ok (.aload_n 0, 1) := by decide +kernel
theorem dX0_lostWithoutSlot_26 : decode cX0_lostWithoutSlot 26 = .ok (.invokevirtual 146, 3) := by decide +kernel
theorem dX0_lostWithoutSlot_29 : decode cX0_lostWithoutSlot 29 = .ok (.ireturn, 1) := by decide +kernel
theorem dX0_lostWithoutRoot_0 : decode cX0_lostWithoutRoot 0 = .ok (.aload_n 0, 1) := by decide +kernel
theorem dX0_lostWithoutRoot_1 : decode cX0_lostWithoutRoot 1 = .ok (.getfield 18, 3) := by decide +kernel
theorem dX0_lostWithoutRoot_4 : decode cX0_lostWithoutRoot 4 = .ok (.aload_n 0, 1) := by decide +kernel
theorem dX0_lostWithoutRoot_5 : decode cX0_lostWithoutRoot 5 = .ok (.getfield 21, 3) := by decide +kernel
theorem dX0_lostWithoutRoot_8 : decode cX0_lostWithoutRoot 8 = .ok (.aload_n 0, 1) := by decide +kernel
theorem dX0_lostWithoutRoot_9 : decode cX0_lostWithoutRoot 9 = .ok (.getfield 47, 3) := by decide +kernel
theorem dX0_lostWithoutRoot_12 : decode cX0_lostWithoutRoot 12 = .ok (.invokevirtual 64, 3) := by decide +kernel
theorem dX0_lostWithoutRoot_15 : decode cX0_lostWithoutRoot 15 = .ok (.iload_n 1, 1) := by decide +kernel
theorem dX0_lostWithoutRoot_16 : decode cX0_lostWithoutRoot 16 = .ok (.invokestatic 105, 3) := by decide +kernel
theorem dX0_lostWithoutRoot_19 : decode cX0_lostWithoutRoot 19 = .ok (.ldc2_w 150, 3) := by decide +kernel
theorem dX0_lostWithoutRoot_22 : decode cX0_lostWithoutRoot 22 = .ok (.lxor, 1) := by decide +kernel
theorem dX0_lostWithoutRoot_23 : decode cX0_lostWithoutRoot 23 = .ok (.land, 1) := by decide +kernel
theorem dX0_lostWithoutRoot_24 : decode cX0_lostWithoutRoot 24 = .ok (.lconst 0, 1) := by decide +kernel
theorem dX0_lostWithoutRoot_25 : decode cX0_lostWithoutRoot 25 = .ok (.iconst (-1), 1) := by decide +kernel
theorem dX0_lostWithoutRoot_26 : decode cX0_lostWithoutRoot 26 = .ok (.invokevirtual 68, 3) := by decide +kernel
theorem dX0_lostWithoutRoot_29 : decode cX0_lostWithoutRoot 29 = .ok (.aload_n 0, 1) := by decide +kernel
theorem dX0_lostWithoutRoot_30 : decode cX0_lostWithoutRoot 30 = .ok (.invokevirtual 146, 3) := by decide +kernel
theorem dX0_lostWithoutRoot_33 : decode cX0_lostWithoutRoot 33 = .ok (.ireturn, 1) := by decide +kernel
theorem dX0_lostWithout_0 : decode cX0_lostWithout 0 = .ok (.aload_n 0, 1) := by decide +kernel
theorem dX0_lostWithout_1 : decode cX0_lostWithout 1 = .ok (.getfield 18, 3) := by decide +kernel
theorem dX0_lostWithout_4 : decode cX0_lostWithout 4 = .ok (.aload_n 0, 1) := by decide +kernel
theorem dX0_lostWithout_5 : decode cX0_lostWithout 5 = .ok (.getfield 21, 3) := by decide +kernel
theorem dX0_lostWithout_8 : decode cX0_lostWithout 8 = .ok (.aload_n 0, 1) := by decide +kernel
theorem dX0_lostWithout_9 : decode cX0_lostWithout 9 = .ok (.getfield 47, 3) := by decide +kernel
theorem dX0_lostWithout_12 : decode cX0_lostWithout 12 = .ok (.invokevirtual 64, 3) := by decide +kernel
theorem dX0_lostWithout_15 : decode cX0_lostWithout 15 = .ok (.lload_n 1, 1) := by decide +kernel
theorem dX0_lostWithout_16 : decode cX0_lostWithout 16 = .ok (.iconst (-1), 1) := by decide +kernel
theorem dX0_lostWithout_17 : decode cX0_lostWithout 17 = .ok (.invokevirtual 68, 3) := by decide +kernel
theorem dX0_lostWithout_20 : decode cX0_lostWithout 20 = .ok (.aload_n 0, 1) := by decide +kernel
theorem dX0_lostWithout_21 : decode cX0_lostWithout 21 = .ok (.invokevirtual 146, 3) := by decide +kernel
theorem dX0_lostWithout_24 : decode cX0_lostWithout 24 = .ok (.ireturn, 1) := by decide +kernel
theorem dX0_retainingAtLeast_0 : decode cX0_retainingAtLeast 0 = .ok (.lconst 0, 1) := by decide +kernel
theorem dX0_retainingAtLeast_1 : decode cX0_retainingAtLeast 1 = .ok (.lstore 5, 2) := by decide +kernel
theorem dX0_retainingAtLeast_3 : decode cX0_retainingAtLeast 3 = .ok (.iconst 0, 1) := by decide +kernel
theorem dX0_retainingAtLeast_4 : decode cX0_retainingAtLeast 4 = .ok (.istore 7, 2) := by decide +kernel
theorem dX0_retainingAtLeast_6 : decode cX0_retainingAtLeast 6 = .ok (.iload 7, 2) := by decide +kernel
theorem dX0_retainingAtLeast_8 : decode cX0_retainingAtLeast 8 = .ok (.bipush 40, 2) := by decide +kernel
theorem dX0_retainingAtLeast_10 : decode cX0_retainingAtLeast 10 = .ok (.if_icmp .ge 61, 3) := by decide +kernel
theorem dX0_retainingAtLeast_13 : decode cX0_retainingAtLeast 13 = .ok (.lload_n 1, 1) := by decide +kernel
theorem dX0_retainingAtLeast_14 : decode cX0_retainingAtLeast 14 = .ok (.iload 7, 2) := by decide +kernel
theorem dX0_retainingAtLeast_16 : decode cX0_retainingAtLeast 16 = .ok (.invokestatic 101, 3) := by decide +kernel
theorem dX0_retainingAtLeast_19 : decode cX0_retainingAtLeast 19 = .ok (.ifCond .eq 24, 3) := by decide +kernel
theorem dX0_retainingAtLeast_22 : decode cX0_retainingAtLeast 22 = .ok (.aload_n 0, 1) := by decide +kernel
theorem dX0_retainingAtLeast_23 : decode cX0_retainingAtLeast 23 = .ok (.getfield 32, 3) := by decide +kernel
theorem dX0_retainingAtLeast_26 : decode cX0_retainingAtLeast 26 = .ok (.iload 7, 2) := by decide +kernel
theorem dX0_retainingAtLeast_28 : decode cX0_retainingAtLeast 28 = .ok (.iaload, 1) := by decide +kernel
theorem dX0_retainingAtLeast_29 : decode cX0_retainingAtLeast 29 = .ok (.bipush 100, 2) := by decide +kernel
theorem dX0_retainingAtLeast_31 : decode cX0_retainingAtLeast 31 = .ok (.imul, 1) := by decide +kernel
theorem dX0_retainingAtLeast_32 : decode cX0_retainingAtLeast 32 = .ok (.iload_n 3, 1) := by decide +kernel
theorem dX0_retainingAtLeast_33 : decode cX0_retainingAtLeast 33 = .ok (.iload 4, 2) := by decide +kernel
theorem dX0_retainingAtLeast_35 : decode cX0_retainingAtLeast 35 = .ok (.imul, 1) := by decide +kernel
theorem dX0_retainingAtLeast_36 : decode cX0_retainingAtLeast 36 = .ok (.if_icmp .lt 7, 3) := by decide +kernel
theorem dX0_retainingAtLeast_39 : decode cX0_retainingAtLeast 39 = .ok (.iconst 1, 1) := by decide +kernel
theorem dX0_retainingAtLeast_40 : decode cX0_retainingAtLeast 40 = .ok (.goto 4, 3) := by decide +kernel
theorem dX0_retainingAtLeast_43 : decode cX0_retainingAtLeast 43 = .ok (.iconst 0, 1) := by decide +kernel
theorem dX0_retainingAtLeast_44 : decode cX0_retainingAtLeast 44 = .ok (.istore 8, 2) := by decide +kernel
theorem dX0_retainingAtLeast_46 : decode cX0_retainingAtLeast 46 = .ok (.lload 5, 2) := by decide +kernel
theorem dX0_retainingAtLeast_48 : decode cX0_retainingAtLeast 48 = .ok (.iload 8, 2) := by decide +kernel
theorem dX0_retainingAtLeast_50 : decode cX0_retainingAtLeast 50 = .ok (.ifCond .eq 11, 3) := by decide +kernel
theorem dX0_retainingAtLeast_53 : decode cX0_retainingAtLeast 53 = .ok (.iload 7, 2) := by decide +kernel
theorem dX0_retainingAtLeast_55 : decode cX0_retainingAtLeast 55 = .ok (.invokestatic 105, 3) := by decide +kernel
theorem dX0_retainingAtLeast_58 : decode cX0_retainingAtLeast 58 = .ok (.goto 4, 3) := by decide +kernel
theorem dX0_retainingAtLeast_61 : decode cX0_retainingAtLeast 61 = .ok (.lconst 0, 1) := by decide +kernel
theorem dX0_retainingAtLeast_62 : decode cX0_retainingAtLeast 62 = .ok (.lor, 1) := by decide +kernel
theorem dX0_retainingAtLeast_63 : decode cX0_retainingAtLeast 63 = .ok (.lstore 5, 2) := by decide +kernel
theorem dX0_retainingAtLeast_65 : decode cX0_retainingAtLeast 65 = .ok (.iinc 7 1, 3) := by decide +kernel
theorem dX0_retainingAtLeast_68 : decode cX0_retainingAtLeast 68 = .ok (.goto (-62), 3) := by decide +kernel
theorem dX0_retainingAtLeast_71 : decode cX0_retainingAtLeast 71 = .ok (.lload 5, 2) := by decide +kernel
theorem dX0_retainingAtLeast_73 : decode cX0_retainingAtLeast 73 = .ok (.lreturn, 1) := by decide +kernel
theorem dX0_suspects_0 : decode cX0_suspects 0 = .ok (.aload_n 0, 1) := by decide +kernel
theorem dX0_suspects_1 : decode cX0_suspects 1 = .ok (.aload_n 0, 1) := by decide +kernel
theorem dX0_suspects_2 : decode cX0_suspects 2 = .ok (.getfield 12, 3) := by decide +kernel
theorem dX0_suspects_5 : decode cX0_suspects 5 = .ok (.getfield 72, 3) := by decide +kernel
theorem dX0_suspects_8 : decode cX0_suspects 8 = .ok (.iload_n 1, 1) := by decide +kernel
theorem dX0_suspects_9 : decode cX0_suspects 9 = .ok (.aload_n 0, 1) := by decide +kernel
theorem dX0_suspects_10 : decode cX0_suspects 10 = .ok (.getfield 80, 3) := by decide +kernel
theorem dX0_suspects_13 : decode cX0_suspects 13 = .ok (.invokevirtual 152, 3) := by decide +kernel
theorem dX0_suspects_16 : decode cX0_suspects 16 = .ok (.lstore_n 2, 1) := by decide +kernel
theorem dX0_suspects_17 : decode cX0_suspects 17 = .ok (.lload_n 2, 1) := by decide +kernel
theorem dX0_suspects_18 : decode cX0_suspects 18 = .ok (.lstore 4, 2) := by decide +kernel
theorem dX0_suspects_20 : decode cX0_suspects 20 = .ok (.iconst 0, 1) := by decide +kernel
theorem dX0_suspects_21 : decode cX0_suspects 21 = .ok (.istore 6, 2) := by decide +kernel
theorem dX0_suspects_23 : decode cX0_suspects 23 = .ok (.iload 6, 2) := by decide +kernel
theorem dX0_suspects_25 : decode cX0_suspects 25 = .ok (.bipush 40, 2) := by decide +kernel
theorem dX0_suspects_27 : decode cX0_suspects 27 = .ok (.if_icmp .ge 37, 3) := by decide +kernel
theorem dX0_suspects_30 : decode cX0_suspects 30 = .ok (.lload_n 2, 1) := by decide +kernel
theorem dX0_suspects_31 : decode cX0_suspects 31 = .ok (.iload 6, 2) := by decide +kernel
theorem dX0_suspects_33 : decode cX0_suspects 33 = .ok (.invokestatic 101, 3) := by decide +kernel
theorem dX0_suspects_36 : decode cX0_suspects 36 = .ok (.ifCond .eq 22, 3) := by decide +kernel
theorem dX0_suspects_39 : decode cX0_suspects 39 = .ok (.lload 4, 2) := by decide +kernel
theorem dX0_suspects_41 : decode cX0_suspects 41 = .ok (.aload_n 0, 1) := by decide +kernel
theorem dX0_suspects_42 : decode cX0_suspects 42 = .ok (.getfield 29, 3) := by decide +kernel
theorem dX0_suspects_45 : decode cX0_suspects 45 = .ok (.iload 6, 2) := by decide +kernel
theorem dX0_suspects_47 : decode cX0_suspects 47 = .ok (.iaload, 1) := by decide +kernel
theorem dX0_suspects_48 : decode cX0_suspects 48 = .ok (.invokestatic 105, 3) := by decide +kernel
theorem dX0_suspects_51 : decode cX0_suspects 51 = .ok (.ldc2_w 150, 3) := by decide +kernel
theorem dX0_suspects_54 : decode cX0_suspects 54 = .ok (.lxor, 1) := by decide +kernel
theorem dX0_suspects_55 : decode cX0_suspects 55 = .ok (.land, 1) := by decide +kernel
theorem dX0_suspects_56 : decode cX0_suspects 56 = .ok (.lstore 4, 2) := by decide +kernel
theorem dX0_suspects_58 : decode cX0_suspects 58 = .ok (.iinc 6 1, 3) := by decide +kernel
theorem dX0_suspects_61 : decode cX0_suspects 61 = .ok (.goto (-38), 3) := by decide +kernel
theorem dX0_suspects_64 : decode cX0_suspects 64 = .ok (.lload 4, 2) := by decide +kernel
theorem dX0_suspects_66 : decode cX0_suspects 66 = .ok (.lreturn, 1) := by decide +kernel
theorem dX0_greatest_0 : decode cX0_greatest 0 = .ok (.iconst (-1), 1) := by decide +kernel
theorem dX0_greatest_1 : decode cX0_greatest 1 = .ok (.istore_n 3, 1) := by decide +kernel
theorem dX0_greatest_2 : decode cX0_greatest 2 = .ok (.iconst 0, 1) := by decide +kernel
theorem dX0_greatest_3 : decode cX0_greatest 3 = .ok (.istore 4, 2) := by decide +kernel
theorem dX0_greatest_5 : decode cX0_greatest 5 = .ok (.iload 4, 2) := by decide +kernel
theorem dX0_greatest_7 : decode cX0_greatest 7 = .ok (.bipush 40, 2) := by decide +kernel
theorem dX0_greatest_9 : decode cX0_greatest 9 = .ok (.if_icmp .ge 42, 3) := by decide +kernel
theorem dX0_greatest_12 : decode cX0_greatest 12 = .ok (.lload_n 1, 1) := by decide +kernel
theorem dX0_greatest_13 : decode cX0_greatest 13 = .ok (.iload 4, 2) := by decide +kernel
theorem dX0_greatest_15 : decode cX0_greatest 15 = .ok (.invokestatic 101, 3) := by decide +kernel
theorem dX0_greatest_18 : decode cX0_greatest 18 = .ok (.ifCond .eq 27, 3) := by decide +kernel
theorem dX0_greatest_21 : decode cX0_greatest 21 = .ok (.iload_n 3, 1) := by decide +kernel
theorem dX0_greatest_22 : decode cX0_greatest 22 = .ok (.iconst (-1), 1) := by decide +kernel
theorem dX0_greatest_23 : decode cX0_greatest 23 = .ok (.if_icmp .eq 19, 3) := by decide +kernel
theorem dX0_greatest_26 : decode cX0_greatest 26 = .ok (.aload_n 0, 1) := by decide +kernel
theorem dX0_greatest_27 : decode cX0_greatest 27 = .ok (.getfield 32, 3) := by decide +kernel
theorem dX0_greatest_30 : decode cX0_greatest 30 = .ok (.iload 4, 2) := by decide +kernel
theorem dX0_greatest_32 : decode cX0_greatest 32 = .ok (.iaload, 1) := by decide +kernel
theorem dX0_greatest_33 : decode cX0_greatest 33 = .ok (.aload_n 0, 1) := by decide +kernel
theorem dX0_greatest_34 : decode cX0_greatest 34 = .ok (.getfield 32, 3) := by decide +kernel
theorem dX0_greatest_37 : decode cX0_greatest 37 = .ok (.iload_n 3, 1) := by decide +kernel
theorem dX0_greatest_38 : decode cX0_greatest 38 = .ok (.iaload, 1) := by decide +kernel
theorem dX0_greatest_39 : decode cX0_greatest 39 = .ok (.if_icmp .le 6, 3) := by decide +kernel
theorem dX0_greatest_42 : decode cX0_greatest 42 = .ok (.iload 4, 2) := by decide +kernel
theorem dX0_greatest_44 : decode cX0_greatest 44 = .ok (.istore_n 3, 1) := by decide +kernel
theorem dX0_greatest_45 : decode cX0_greatest 45 = .ok (.iinc 4 1, 3) := by decide +kernel
theorem dX0_greatest_48 : decode cX0_greatest 48 = .ok (.goto (-43), 3) := by decide +kernel
theorem dX0_greatest_51 : decode cX0_greatest 51 = .ok (.iload_n 3, 1) := by decide +kernel
theorem dX0_greatest_52 : decode cX0_greatest 52 = .ok (.ireturn, 1) := by decide +kernel
theorem dX0_accumulationFrom_0 : decode cX0_accumulationFrom 0 = .ok (.iload_n 1, 1) := by decide +kernel
theorem dX0_accumulationFrom_1 : decode cX0_accumulationFrom 1 = .ok (.istore_n 3, 1) := by decide +kernel
theorem dX0_accumulationFrom_2 : decode cX0_accumulationFrom 2 = .ok (.iconst 0, 1) := by decide +kernel
theorem dX0_accumulationFrom_3 : decode cX0_accumulationFrom 3 = .ok (.istore 4, 2) := by decide +kernel
theorem dX0_accumulationFrom_5 : decode cX0_accumulationFrom 5 = .ok (.iload 4, 2) := by decide +kernel
theorem dX0_accumulationFrom_7 : decode cX0_accumulationFrom 7 = .ok (.bipush 40, 2) := by decide +kernel
theorem dX0_accumulationFrom_9 : decode cX0_accumulationFrom 9 = .ok (.if_icmp .ge 42, 3) := by decide +kernel
theorem dX0_accumulationFrom_12 : decode cX0_accumulationFrom 12 = .ok (.aload_n 0, 1) := by decide +kernel
theorem dX0_accumulationFrom_13 : decode cX0_accumulationFrom 13 = .ok (.aload_n 0, 1) := by decide +kernel
theorem dX0_accumulationFrom_14 : decode cX0_accumulationFrom 14 = .ok (.aload_n 0, 1) := by decide +kernel
theorem dX0_accumulationFrom_15 : decode cX0_accumulationFrom 15 = .ok (.iload_n 3, 1) := by decide +kernel
theorem dX0_accumulationFrom_16 : decode cX0_accumulationFrom 16 = .ok (.invokevirtual 156, 3) := by decide +kernel
theorem dX0_accumulationFrom_19 : decode cX0_accumulationFrom 19 = .ok (.iload_n 2, 1) := by decide +kernel
theorem dX0_accumulationFrom_20 : decode cX0_accumulationFrom 20 = .ok (.aload_n 0, 1) := by decide +kernel
theorem dX0_accumulationFrom_21 : decode cX0_accumulationFrom 21 = .ok (.getfield 32, 3) := by decide +kernel
theorem dX0_accumulationFrom_24 : decode cX0_accumulationFrom 24 = .ok (.iload_n 3, 1) := by decide +kernel
theorem dX0_accumulationFrom_25 : decode cX0_accumulationFrom 25 = .ok (.iaload, 1) := by decide +kernel
theorem dX0_accumulationFrom_26 : decode cX0_accumulationFrom 26 = .ok (.invokevirtual 152, 3) := by decide +kernel
theorem dX0_accumulationFrom_29 : decode cX0_accumulationFrom 29 = .ok (.invokevirtual 159, 3) := by decide +kernel
theorem dX0_accumulationFrom_32 : decode cX0_accumulationFrom 32 = .ok (.istore 5, 2) := by decide +kernel
theorem dX0_accumulationFrom_34 : decode cX0_accumulationFrom 34 = .ok (.iload 5, 2) := by decide +kernel
theorem dX0_accumulationFrom_36 : decode cX0_accumulationFrom 36 = .ok (.iconst (-1), 1) := by decide +kernel
theorem dX0_accumulationFrom_37 : decode cX0_accumulationFrom 37 = .ok (.if_icmp .ne 5, 3) := by decide +kernel
theorem dX0_accumulationFrom_40 : decode cX0_accumulationFrom 40 = .ok (.iload_n 3, 1) := by decide +kernel
theorem dX0_accumulationFrom_41 : decode cX0_accumulationFrom 41 = .ok (.ireturn, 1) := by decide +kernel
theorem dX0_accumulationFrom_42 : decode cX0_accumulationFrom 42 = .ok (.iload 5, 2) := by decide +kernel
theorem dX0_accumulationFrom_44 : decode cX0_accumulationFrom 44 = .ok (.istore_n 3, 1) := by decide +kernel
theorem dX0_accumulationFrom_45 : decode cX0_accumulationFrom 45 = .ok (.iinc 4 1, 3) := by decide +kernel
theorem dX0_accumulationFrom_48 : decode cX0_accumulationFrom 48 = .ok (.goto (-43), 3) := by decide +kernel
theorem dX0_accumulationFrom_51 : decode cX0_accumulationFrom 51 = .ok (.iload_n 3, 1) := by decide +kernel
theorem dX0_accumulationFrom_52 : decode cX0_accumulationFrom 52 = .ok (.ireturn, 1) := by decide +kernel
theorem dX2_init_0 : decode cX2_init 0 = .ok (.aload_n 0, 1) := by decide +kernel
theorem dX2_init_1 : decode cX2_init 1 = .ok (.invokespecial 3, 3) := by decide +kernel
theorem dX2_init_4 : decode cX2_init 4 = .ok (.return_, 1) := by decide +kernel
theorem dX2_begin_0 : decode cX2_begin 0 = .ok (.aload_n 0, 1) := by decide +kernel
theorem dX2_begin_1 : decode cX2_begin 1 = .ok (.iload_n 1, 1) := by decide +kernel
theorem dX2_begin_2 : decode cX2_begin 2 = .ok (.i2l, 1) := by decide +kernel
theorem dX2_begin_3 : decode cX2_begin 3 = .ok (.putfield 9, 3) := by decide +kernel
theorem dX2_begin_6 : decode cX2_begin 6 = .ok (.return_, 1) := by decide +kernel
theorem dX2_below_0 : decode cX2_below 0 = .ok (.aload_n 0, 1) := by decide +kernel
theorem dX2_below_1 : decode cX2_below 1 = .ok (.aload_n 0, 1) := by decide +kernel
theorem dX2_below_2 : decode cX2_below 2 = .ok (.getfield 9, 3) := by decide +kernel
theorem dX2_below_5 : decode cX2_below 5 = .ok (.ldc2_w 15, 3) := by decide +kernel
theorem dX2_below_8 : decode cX2_below 8 = .ok (.lmul, 1) := by decide +kernel
theorem dX2_below_9 : decode cX2_below 9 = .ok (.ldc2_w 17, 3) := by decide +kernel
theorem dX2_below_12 : decode cX2_below 12 = .ok (.ladd, 1) := by decide +kernel
theorem dX2_below_13 : decode cX2_below 13 = .ok (.ldc2_w 19, 3) := by decide +kernel
theorem dX2_below_16 : decode cX2_below 16 = .ok (.lrem, 1) := by decide +kernel
theorem dX2_below_17 : decode cX2_below 17 = .ok (.putfield 9, 3) := by decide +kernel
theorem dX2_below_20 : decode cX2_below 20 = .ok (.iload_n 1, 1) := by decide +kernel
theorem dX2_below_21 : decode cX2_below 21 = .ok (.ifCond .le 18, 3) := by decide +kernel
theorem dX2_below_24 : decode cX2_below 24 = .ok (.aload_n 0, 1) := by decide +kernel
theorem dX2_below_25 : decode cX2_below 25 = .ok (.getfield 9, 3) := by decide +kernel
theorem dX2_below_28 : decode cX2_below 28 = .ok (.ldc2_w 21, 3) := by decide +kernel
theorem dX2_below_31 : decode cX2_below 31 = .ok (.ldiv, 1) := by decide +kernel
theorem dX2_below_32 : decode cX2_below 32 = .ok (.iload_n 1, 1) := by decide +kernel
theorem dX2_below_33 : decode cX2_below 33 = .ok (.i2l, 1) := by decide +kernel
theorem dX2_below_34 : decode cX2_below 34 = .ok (.lrem, 1) := by decide +kernel
theorem dX2_below_35 : decode cX2_below 35 = .ok (.l2i, 1) := by decide +kernel
theorem dX2_below_36 : decode cX2_below 36 = .ok (.goto 4, 3) := by decide +kernel
theorem dX2_below_39 : decode cX2_below 39 = .ok (.iconst 0, 1) := by decide +kernel
theorem dX2_below_40 : decode cX2_below 40 = .ok (.ireturn, 1) := by decide +kernel
theorem dX2_newObject_0 : decode cX2_newObject 0 = .ok (.aload_n 0, 1) := by decide +kernel
theorem dX2_newObject_1 : decode cX2_newObject 1 = .ok (.iconst 4, 1) := by decide +kernel
theorem dX2_newObject_2 : decode cX2_newObject 2 = .ok (.invokevirtual 33, 3) := by decide +kernel
theorem dX2_newObject_5 : decode cX2_newObject 5 = .ok (.lookupswitch 43 #[(2, 27), (3, 38)], 27) := by decide +kernel
theorem dX2_newObject_32 : decode cX2_newObject 32 = .ok (.aload_n 1, 1) := by decide +kernel
theorem dX2_newObject_33 : decode cX2_newObject 33 = .ok (.aload_n 0, 1) := by decide +kernel
theorem dX2_newObject_34 : decode cX2_newObject 34 = .ok (.bipush 9, 2) := by decide +kernel
theorem dX2_newObject_36 : decode cX2_newObject 36 = .ok (.invokevirtual 33, 3) := by decide +kernel
theorem dX2_newObject_39 : decode cX2_newObject 39 = .ok (.invokevirtual 63, 3) := by decide +kernel
theorem dX2_newObject_42 : decode cX2_newObject 42 = .ok (.ireturn, 1) := by decide +kernel
theorem dX2_newObject_43 : decode cX2_newObject 43 = .ok (.aload_n 1, 1) := by decide +kernel
theorem dX2_newObject_44 : decode cX2_newObject 44 = .ok (.invokevirtual 66, 3) := by decide +kernel
theorem dX2_newObject_47 : decode cX2_newObject 47 = .ok (.ireturn, 1) := by decide +kernel
theorem dX2_newObject_48 : decode cX2_newObject 48 = .ok (.aload_n 1, 1) := by decide +kernel
theorem dX2_newObject_49 : decode cX2_newObject 49 = .ok (.aload_n 0, 1) := by decide +kernel
theorem dX2_newObject_50 : decode cX2_newObject 50 = .ok (.aload_n 1, 1) := by decide +kernel
theorem dX2_newObject_51 : decode cX2_newObject 51 = .ok (.getfield 70, 3) := by decide +kernel
theorem dX2_newObject_54 : decode cX2_newObject 54 = .ok (.invokevirtual 33, 3) := by decide +kernel
theorem dX2_newObject_57 : decode cX2_newObject 57 = .ok (.invokevirtual 74, 3) := by decide +kernel
theorem dX2_newObject_60 : decode cX2_newObject 60 = .ok (.ireturn, 1) := by decide +kernel
theorem dX8_memberAt_0 : decode cX8_memberAt 0 = .ok (.iload_n 2, 1) := by decide +kernel
theorem dX8_memberAt_1 : decode cX8_memberAt 1 = .ok (.ifCond .ge 5, 3) := by decide +kernel
theorem dX8_memberAt_4 : decode cX8_memberAt 4 = .ok (.iconst (-1), 1) := by decide +kernel
theorem dX8_memberAt_5 : decode cX8_memberAt 5 = .ok (.ireturn, 1) := by decide +kernel
theorem dX8_memberAt_6 : decode cX8_memberAt 6 = .ok (.iconst 0, 1) := by decide +kernel
theorem dX8_memberAt_7 : decode cX8_memberAt 7 = .ok (.istore_n 3, 1) := by decide +kernel
theorem dX8_memberAt_8 : decode cX8_memberAt 8 = .ok (.iconst 0, 1) := by decide +kernel
theorem dX8_memberAt_9 : decode cX8_memberAt 9 = .ok (.istore 4, 2) := by decide +kernel
theorem dX8_memberAt_11 : decode cX8_memberAt 11 = .ok (.iload 4, 2) := by decide +kernel
theorem dX8_memberAt_13 : decode cX8_memberAt 13 = .ok (.bipush 40, 2) := by decide +kernel
theorem dX8_memberAt_15 : decode cX8_memberAt 15 = .ok (.if_icmp .ge 29, 3) := by decide +kernel
theorem dX8_memberAt_18 : decode cX8_memberAt 18 = .ok (.lload_n 0, 1) := by decide +kernel
theorem dX8_memberAt_19 : decode cX8_memberAt 19 = .ok (.iload 4, 2) := by decide +kernel
theorem dX8_memberAt_21 : decode cX8_memberAt 21 = .ok (.invokestatic 205, 3) := by decide +kernel
theorem dX8_memberAt_24 : decode cX8_memberAt 24 = .ok (.ifCond .eq 14, 3) := by decide +kernel
theorem dX8_memberAt_27 : decode cX8_memberAt 27 = .ok (.iload_n 3, 1) := by decide +kernel
theorem dX8_memberAt_28 : decode cX8_memberAt 28 = .ok (.iload_n 2, 1) := by decide +kernel
theorem dX8_memberAt_29 : decode cX8_memberAt 29 = .ok (.if_icmp .ne 6, 3) := by decide +kernel
theorem dX8_memberAt_32 : decode cX8_memberAt 32 = .ok (.iload 4, 2) := by decide +kernel
theorem dX8_memberAt_34 : decode cX8_memberAt 34 = .ok (.ireturn, 1) := by decide +kernel
theorem dX8_memberAt_35 : decode cX8_memberAt 35 = .ok (.iinc 3 1, 3) := by decide +kernel
theorem dX8_memberAt_38 : decode cX8_memberAt 38 = .ok (.iinc 4 1, 3) := by decide +kernel
theorem dX8_memberAt_41 : decode cX8_memberAt 41 = .ok (.goto (-30), 3) := by decide +kernel
theorem dX8_memberAt_44 : decode cX8_memberAt 44 = .ok (.iconst (-1), 1) := by decide +kernel
theorem dX8_memberAt_45 : decode cX8_memberAt 45 = .ok (.ireturn, 1) := by decide +kernel
theorem dX2_addTo_0 : decode cX2_addTo 0 = .ok (.aload_n 0, 1) := by decide +kernel
theorem dX2_addTo_1 : decode cX2_addTo 1 = .ok (.aload_n 1, 1) := by decide +kernel
theorem dX2_addTo_2 : decode cX2_addTo 2 = .ok (.invokevirtual 23, 3) := by decide +kernel
theorem dX2_addTo_5 : decode cX2_addTo 5 = .ok (.istore_n 2, 1) := by decide +kernel
theorem dX2_addTo_6 : decode cX2_addTo 6 = .ok (.iconst 0, 1) := by decide +kernel
theorem dX2_addTo_7 : decode cX2_addTo 7 = .ok (.istore_n 3, 1) := by decide +kernel
theorem dX2_addTo_8 : decode cX2_addTo 8 = .ok (.iload_n 3, 1) := by decide +kernel
theorem dX2_addTo_9 : decode cX2_addTo 9 = .ok (.bipush 8, 2) := by decide +kernel
theorem dX2_addTo_11 : decode cX2_addTo 11 = .ok (.if_icmp .ge 53, 3) := by decide +kernel
theorem dX2_addTo_14 : decode cX2_addTo 14 = .ok (.aload_n 1, 1) := by decide +kernel
theorem dX2_addTo_15 : decode cX2_addTo 15 = .ok (.iload_n 2, 1) := by decide +kernel
theorem dX2_addTo_16 : decode cX2_addTo 16 = .ok (.iload_n 3, 1) := by decide +kernel
theorem dX2_addTo_17 : decode cX2_addTo 17 = .ok (.invokevirtual 27, 3) := by decide +kernel
theorem dX2_addTo_20 : decode cX2_addTo 20 = .ok (.ifCond .eq 38, 3) := by decide +kernel
theorem dX2_addTo_23 : decode cX2_addTo 23 = .ok (.aload_n 0, 1) := by decide +kernel
theorem dX2_addTo_24 : decode cX2_addTo 24 = .ok (.iconst 3, 1) := by decide +kernel
theorem dX2_addTo_25 : decode cX2_addTo 25 = .ok (.invokevirtual 33, 3) := by decide +kernel
theorem dX2_addTo_28 : decode cX2_addTo 28 = .ok (.ifCond .eq 30, 3) := by decide +kernel
theorem dX2_addTo_31 : decode cX2_addTo 31 = .ok (.aload_n 1, 1) := by decide +kernel
theorem dX2_addTo_32 : decode cX2_addTo 32 = .ok (.invokevirtual 37, 3) := by decide +kernel
theorem dX2_addTo_35 : decode cX2_addTo 35 = .ok (.lstore 4, 2) := by decide +kernel
theorem dX2_addTo_37 : decode cX2_addTo 37 = .ok (.aload_n 1, 1) := by decide +kernel
theorem dX2_addTo_38 : decode cX2_addTo 38 = .ok (.iload_n 2, 1) := by decide +kernel
theorem dX2_addTo_39 : decode cX2_addTo 39 = .ok (.iload_n 3, 1) := by decide +kernel
theorem dX2_addTo_40 : decode cX2_addTo 40 = .ok (.lload 4, 2) := by decide +kernel
theorem dX2_addTo_42 : decode cX2_addTo 42 = .ok (.aload_n 0, 1) := by decide +kernel
theorem dX2_addTo_43 : decode cX2_addTo 43 = .ok (.lload 4, 2) := by decide +kernel
theorem dX2_addTo_45 : decode cX2_addTo 45 = .ok (.invokestatic 41, 3) := by decide +kernel
theorem dX2_addTo_48 : decode cX2_addTo 48 = .ok (.invokevirtual 33, 3) := by decide +kernel
theorem dX2_addTo_51 : decode cX2_addTo 51 = .ok (.invokestatic 47, 3) := by decide +kernel
theorem dX2_addTo_54 : decode cX2_addTo 54 = .ok (.invokevirtual 51, 3) := by decide +kernel
theorem dX2_addTo_57 : decode cX2_addTo 57 = .ok (.pop, 1) := by decide +kernel
theorem dX2_addTo_58 : decode cX2_addTo 58 = .ok (.iinc 3 1, 3) := by decide +kernel
theorem dX2_addTo_61 : decode cX2_addTo 61 = .ok (.goto (-53), 3) := by decide +kernel
theorem dX2_addTo_64 : decode cX2_addTo 64 = .ok (.aload_n 0, 1) := by decide +kernel
theorem dX2_addTo_65 : decode cX2_addTo 65 = .ok (.iconst 5, 1) := by decide +kernel
theorem dX2_addTo_66 : decode cX2_addTo 66 = .ok (.invokevirtual 33, 3) := by decide +kernel
theorem dX2_addTo_69 : decode cX2_addTo 69 = .ok (.ifCond .ne 24, 3) := by decide +kernel
theorem dX2_addTo_72 : decode cX2_addTo 72 = .ok (.aload_n 1, 1) := by decide +kernel
theorem dX2_addTo_73 : decode cX2_addTo 73 = .ok (.iload_n 2, 1) := by decide +kernel
theorem dX2_addTo_74 : decode cX2_addTo 74 = .ok (.invokevirtual 55, 3) := by decide +kernel
theorem dX2_addTo_77 : decode cX2_addTo 77 = .ok (.ifCond .eq 16, 3) := by decide +kernel
theorem dX2_addTo_80 : decode cX2_addTo 80 = .ok (.aload_n 1, 1) := by decide +kernel
theorem dX2_addTo_81 : decode cX2_addTo 81 = .ok (.iload_n 2, 1) := by decide +kernel
theorem dX2_addTo_82 : decode cX2_addTo 82 = .ok (.iconst 1, 1) := by decide +kernel
theorem dX2_addTo_83 : decode cX2_addTo 83 = .ok (.aload_n 0, 1) := by decide +kernel
theorem dX2_addTo_84 : decode cX2_addTo 84 = .ok (.iconst 3, 1) := by decide +kernel
theorem dX2_addTo_85 : decode cX2_addTo 85 = .ok (.invokevirtual 33, 3) := by decide +kernel
theorem dX2_addTo_88 : decode cX2_addTo 88 = .ok (.ishl, 1) := by decide +kernel
theorem dX2_addTo_89 : decode cX2_addTo 89 = .ok (.invokevirtual 59, 3) := by decide +kernel
theorem dX2_addTo_92 : decode cX2_addTo 92 = .ok (.pop, 1) := by decide +kernel
theorem dX2_addTo_93 : decode cX2_addTo 93 = .ok (.return_, 1) := by decide +kernel
theorem dX5_init_0 : decode cX5_init 0 = .ok (.aload_n 0, 1) := by decide +kernel
theorem dX5_init_1 : decode cX5_init 1 = .ok (.invokespecial 3, 3) := by decide +kernel
theorem dX5_init_4 : decode cX5_init 4 = .ok (.aload_n 0, 1) := by decide +kernel
theorem dX5_init_5 : decode cX5_init 5 = .ok (.bipush 6, 2) := by decide +kernel
theorem dX5_init_7 : decode cX5_init 7 = .ok (.anewarray 9, 3) := by decide +kernel
theorem dX5_init_10 : decode cX5_init 10 = .ok (.putfield 11, 3) := by decide +kernel
theorem dX5_init_13 : decode cX5_init 13 = .ok (.iconst 0, 1) := by decide +kernel
theorem dX5_init_14 : decode cX5_init 14 = .ok (.istore_n 1, 1) := by decide +kernel
theorem dX5_init_15 : decode cX5_init 15 = .ok (.iload_n 1, 1) := by decide +kernel
theorem dX5_init_16 : decode cX5_init 16 = .ok (.iconst 5, 1) := by decide +kernel
theorem dX5_init_17 : decode cX5_init 17 = .ok (.if_icmp .gt 22, 3) := by decide +kernel
theorem dX5_init_20 : decode cX5_init 20 = .ok (.aload_n 0, 1) := by decide +kernel
theorem dX5_init_21 : decode cX5_init 21 = .ok (.getfield 11, 3) := by decide +kernel
theorem dX5_init_24 : decode cX5_init 24 = .ok (.iload_n 1, 1) := by decide +kernel
theorem dX5_init_25 : decode cX5_init 25 = .ok (.new 9, 3) := by decide +kernel
theorem dX5_init_28 : decode cX5_init 28 = .ok (.dup, 1) := by decide +kernel
theorem dX5_init_29 : decode cX5_init 29 = .ok (.invokespecial 17, 3) := by decide +kernel
theorem dX5_init_32 : decode cX5_init 32 = .ok (.aastore, 1) := by decide +kernel
theorem dX5_init_33 : decode cX5_init 33 = .ok (.iinc 1 1, 3) := by decide +kernel
theorem dX5_init_36 : decode cX5_init 36 = .ok (.goto (-21), 3) := by decide +kernel
theorem dX5_init_39 : decode cX5_init 39 = .ok (.return_, 1) := by decide +kernel
theorem dX5_note_0 : decode cX5_note 0 = .ok (.aload_n 0, 1) := by decide +kernel
theorem dX5_note_1 : decode cX5_note 1 = .ok (.getfield 11, 3) := by decide +kernel
theorem dX5_note_4 : decode cX5_note 4 = .ok (.aload_n 0, 1) := by decide +kernel
theorem dX5_note_5 : decode cX5_note 5 = .ok (.getfield 18, 3) := by decide +kernel
theorem dX5_note_8 : decode cX5_note 8 = .ok (.aaload, 1) := by decide +kernel
theorem dX5_note_9 : decode cX5_note 9 = .ok (.aload_n 1, 1) := by decide +kernel
theorem dX5_note_10 : decode cX5_note 10 = .ok (.invokevirtual 22, 3) := by decide +kernel
theorem dX5_note_13 : decode cX5_note 13 = .ok (.return_, 1) := by decide +kernel
theorem dX5_noted_0 : decode cX5_noted 0 = .ok (.aload_n 0, 1) := by decide +kernel
theorem dX5_noted_1 : decode cX5_noted 1 = .ok (.getfield 11, 3) := by decide +kernel
theorem dX5_noted_4 : decode cX5_noted 4 = .ok (.aload_n 0, 1) := by decide +kernel
theorem dX5_noted_5 : decode cX5_noted 5 = .ok (.getfield 18, 3) := by decide +kernel
theorem dX5_noted_8 : decode cX5_noted 8 = .ok (.aaload, 1) := by decide +kernel
theorem dX5_noted_9 : decode cX5_noted 9 = .ok (.areturn, 1) := by decide +kernel
theorem dX5_keepNoted_0 : decode cX5_keepNoted 0 = .ok (.aload_n 0, 1) := by decide +kernel
theorem dX5_keepNoted_1 : decode cX5_keepNoted 1 = .ok (.getfield 18, 3) := by decide +kernel
theorem dX5_keepNoted_4 : decode cX5_keepNoted 4 = .ok (.iconst 5, 1) := by decide +kernel
theorem dX5_keepNoted_5 : decode cX5_keepNoted 5 = .ok (.if_icmp .ge 14, 3) := by decide +kernel
theorem dX5_keepNoted_8 : decode cX5_keepNoted 8 = .ok (.aload_n 0, 1) := by decide +kernel
theorem dX5_keepNoted_9 : decode cX5_keepNoted 9 = .ok (.dup, 1) := by decide +kernel
theorem dX5_keepNoted_10 : decode cX5_keepNoted 10 = .ok (.getfield 18, 3) := by decide +kernel
theorem dX5_keepNoted_13 : decode cX5_keepNoted 13 = .ok (.iconst 1, 1) := by decide +kernel
theorem dX5_keepNoted_14 : decode cX5_keepNoted 14 = .ok (.iadd, 1) := by decide +kernel
theorem dX5_keepNoted_15 : decode cX5_keepNoted 15 = .ok (.putfield 18, 3) := by decide +kernel
theorem dX5_keepNoted_18 : decode cX5_keepNoted 18 = .ok (.return_, 1) := by decide +kernel
theorem dX5_keepNoted_19 : decode cX5_keepNoted 19 = .ok (.aload_n 0, 1) := by decide +kernel
theorem dX5_keepNoted_20 : decode cX5_keepNoted 20 = .ok (.getfield 11, 3) := by decide +kernel
theorem dX5_keepNoted_23 : decode cX5_keepNoted 23 = .ok (.iconst 0, 1) := by decide +kernel
theorem dX5_keepNoted_24 : decode cX5_keepNoted 24 = .ok (.aaload, 1) := by decide +kernel
theorem dX5_keepNoted_25 : decode cX5_keepNoted 25 = .ok (.astore_n 1, 1) := by decide +kernel
theorem dX5_keepNoted_26 : decode cX5_keepNoted 26 = .ok (.iconst 0, 1) := by decide +kernel
theorem dX5_keepNoted_27 : decode cX5_keepNoted 27 = .ok (.istore_n 2, 1) := by decide +kernel
theorem dX5_keepNoted_28 : decode cX5_keepNoted 28 = .ok (.iload_n 2, 1) := by decide +kernel
theorem dX5_keepNoted_29 : decode cX5_keepNoted 29 = .ok (.iconst 5, 1) := by decide +kernel
theorem dX5_keepNoted_30 : decode cX5_keepNoted 30 = .ok (.if_icmp .ge 23, 3) := by decide +kernel
theorem dX5_keepNoted_33 : decode cX5_keepNoted 33 = .ok (.aload_n 0, 1) := by decide +kernel
theorem dX5_keepNoted_34 : decode cX5_keepNoted 34 = .ok (.getfield 11, 3) := by decide +kernel
theorem dX5_keepNoted_37 : decode cX5_keepNoted 37 = .ok (.iload_n 2, 1) := by decide +kernel
theorem dX5_keepNoted_38 : decode cX5_keepNoted 38 = .ok (.aload_n 0, 1) := by decide +kernel
theorem dX5_keepNoted_39 : decode cX5_keepNoted 39 = .ok (.getfield 11, 3) := by decide +kernel
theorem dX5_keepNoted_42 : decode cX5_keepNoted 42 = .ok (.iload_n 2, 1) := by decide +kernel
theorem dX5_keepNoted_43 : decode cX5_keepNoted 43 = .ok (.iconst 1, 1) := by decide +kernel
theorem dX5_keepNoted_44 : decode cX5_keepNoted 44 = .ok (.iadd, 1) := by decide +kernel
theorem dX5_keepNoted_45 : decode cX5_keepNoted 45 = .ok (.aaload, 1) := by decide +kernel
theorem dX5_keepNoted_46 : decode cX5_keepNoted 46 = .ok (.aastore, 1) := by decide +kernel
theorem dX5_keepNoted_47 : decode cX5_keepNoted 47 = .ok (.iinc 2 1, 3) := by decide +kernel
theorem dX5_keepNoted_50 : decode cX5_keepNoted 50 = .ok (.goto (-22), 3) := by decide +kernel
theorem dX5_keepNoted_53 : decode cX5_keepNoted 53 = .ok (.aload_n 0, 1) := by decide +kernel
theorem dX5_keepNoted_54 : decode cX5_keepNoted 54 = .ok (.getfield 11, 3) := by decide +kernel
theorem dX5_keepNoted_57 : decode cX5_keepNoted 57 = .ok (.iconst 5, 1) := by decide +kernel
theorem dX5_keepNoted_58 : decode cX5_keepNoted 58 = .ok (.aload_n 1, 1) := by decide +kernel
theorem dX5_keepNoted_59 : decode cX5_keepNoted 59 = .ok (.aastore, 1) := by decide +kernel
theorem dX5_keepNoted_60 : decode cX5_keepNoted 60 = .ok (.return_, 1) := by decide +kernel
theorem dX5_save_0 : decode cX5_save 0 = .ok (.aload_n 0, 1) := by decide +kernel
theorem dX5_save_1 : decode cX5_save 1 = .ok (.aload_n 1, 1) := by decide +kernel
theorem dX5_save_2 : decode cX5_save 2 = .ok (.invokevirtual 26, 3) := by decide +kernel
theorem dX5_save_5 : decode cX5_save 5 = .ok (.aload_n 0, 1) := by decide +kernel
theorem dX5_save_6 : decode cX5_save 6 = .ok (.invokevirtual 29, 3) := by decide +kernel
theorem dX5_save_9 : decode cX5_save 9 = .ok (.return_, 1) := by decide +kernel
theorem dX5_latest_0 : decode cX5_latest 0 = .ok (.aload_n 0, 1) := by decide +kernel
theorem dX5_latest_1 : decode cX5_latest 1 = .ok (.getfield 11, 3) := by decide +kernel
theorem dX5_latest_4 : decode cX5_latest 4 = .ok (.aload_n 0, 1) := by decide +kernel
theorem dX5_latest_5 : decode cX5_latest 5 = .ok (.getfield 18, 3) := by decide +kernel
theorem dX5_latest_8 : decode cX5_latest 8 = .ok (.iconst 1, 1) := by decide +kernel
theorem dX5_latest_9 : decode cX5_latest 9 = .ok (.isub, 1) := by decide +kernel
theorem dX5_latest_10 : decode cX5_latest 10 = .ok (.iconst 0, 1) := by decide +kernel
theorem dX5_latest_11 : decode cX5_latest 11 = .ok (.invokestatic 32, 3) := by decide +kernel
theorem dX5_latest_14 : decode cX5_latest 14 = .ok (.aaload, 1) := by decide +kernel
theorem dX5_latest_15 : decode cX5_latest 15 = .ok (.areturn, 1) := by decide +kernel
theorem dX5_dropLatest_0 : decode cX5_dropLatest 0 = .ok (.aload_n 0, 1) := by decide +kernel
theorem dX5_dropLatest_1 : decode cX5_dropLatest 1 = .ok (.aload_n 0, 1) := by decide +kernel
theorem dX5_dropLatest_2 : decode cX5_dropLatest 2 = .ok (.getfield 18, 3) := by decide +kernel
theorem dX5_dropLatest_5 : decode cX5_dropLatest 5 = .ok (.iconst 1, 1) := by decide +kernel
theorem dX5_dropLatest_6 : decode cX5_dropLatest 6 = .ok (.isub, 1) := by decide +kernel
theorem dX5_dropLatest_7 : decode cX5_dropLatest 7 = .ok (.iconst 0, 1) := by decide +kernel
theorem dX5_dropLatest_8 : decode cX5_dropLatest 8 = .ok (.invokestatic 32, 3) := by decide +kernel
theorem dX5_dropLatest_11 : decode cX5_dropLatest 11 = .ok (.putfield 18, 3) := by decide +kernel
theorem dX5_dropLatest_14 : decode cX5_dropLatest 14 = .ok (.return_, 1) := by decide +kernel
theorem dX6_pathObject_0 : decode cX6_pathObject 0 = .ok (.iload_n 2, 1) := by decide +kernel
theorem dX6_pathObject_1 : decode cX6_pathObject 1 = .ok (.ifCond .lt 13, 3) := by decide +kernel
theorem dX6_pathObject_4 : decode cX6_pathObject 4 = .ok (.iload_n 2, 1) := by decide +kernel
theorem dX6_pathObject_5 : decode cX6_pathObject 5 = .ok (.aload_n 0, 1) := by decide +kernel
theorem dX6_pathObject_6 : decode cX6_pathObject 6 = .ok (.getfield 15, 3) := by decide +kernel
theorem dX6_pathObject_9 : decode cX6_pathObject 9 = .ok (.iload_n 1, 1) := by decide +kernel
theorem dX6_pathObject_10 : decode cX6_pathObject 10 = .ok (.iaload, 1) := by decide +kernel
theorem dX6_pathObject_11 : decode cX6_pathObject 11 = .ok (.if_icmp .le 5, 3) := by decide +kernel
theorem dX6_pathObject_14 : decode cX6_pathObject 14 = .ok (.iconst (-1), 1) := by decide +kernel
theorem dX6_pathObject_15 : decode cX6_pathObject 15 = .ok (.ireturn, 1) := by decide +kernel
theorem dX6_pathObject_16 : decode cX6_pathObject 16 = .ok (.iload_n 1, 1) := by decide +kernel
theorem dX6_pathObject_17 : decode cX6_pathObject 17 = .ok (.istore_n 3, 1) := by decide +kernel
theorem dX6_pathObject_18 : decode cX6_pathObject 18 = .ok (.aload_n 0, 1) := by decide +kernel
theorem dX6_pathObject_19 : decode cX6_pathObject 19 = .ok (.getfield 15, 3) := by decide +kernel
theorem dX6_pathObject_22 : decode cX6_pathObject 22 = .ok (.iload_n 1, 1) := by decide +kernel
theorem dX6_pathObject_23 : decode cX6_pathObject 23 = .ok (.iaload, 1) := by decide +kernel
theorem dX6_pathObject_24 : decode cX6_pathObject 24 = .ok (.istore 4, 2) := by decide +kernel
theorem dX6_pathObject_26 : decode cX6_pathObject 26 = .ok (.iload 4, 2) := by decide +kernel
theorem dX6_pathObject_28 : decode cX6_pathObject 28 = .ok (.iload_n 2, 1) := by decide +kernel
theorem dX6_pathObject_29 : decode cX6_pathObject 29 = .ok (.if_icmp .le 20, 3) := by decide +kernel
theorem dX6_pathObject_32 : decode cX6_pathObject 32 = .ok (.iload_n 3, 1) := by decide +kernel
theorem dX6_pathObject_33 : decode cX6_pathObject 33 = .ok (.ifCond .lt 16, 3) := by decide +kernel
theorem dX6_pathObject_36 : decode cX6_pathObject 36 = .ok (.aload_n 0, 1) := by decide +kernel
theorem dX6_pathObject_37 : decode cX6_pathObject 37 = .ok (.getfield 18, 3) := by decide +kernel
theorem dX6_pathObject_40 : decode cX6_pathObject 40 = .ok (.iload_n 3, 1) := by decide +kernel
theorem dX6_pathObject_41 : decode cX6_pathObject 41 = .ok (.iaload, 1) := by decide +kernel
theorem dX6_pathObject_42 : decode cX6_pathObject 42 = .ok (.istore_n 3, 1) := by decide +kernel
theorem dX6_pathObject_43 : decode cX6_pathObject 43 = .ok (.iinc 4 (-1), 3) := by decide +kernel
theorem dX6_pathObject_46 : decode cX6_pathObject 46 = .ok (.goto (-20), 3) := by decide +kernel
theorem dX6_pathObject_49 : decode cX6_pathObject 49 = .ok (.iload_n 3, 1) := by decide +kernel
theorem dX6_pathObject_50 : decode cX6_pathObject 50 = .ok (.ireturn, 1) := by decide +kernel
theorem dX7_init_0 : decode cX7_init 0 = .ok (.aload_n 0, 1) := by decide +kernel
theorem dX7_init_1 : decode cX7_init 1 = .ok (.invokespecial 3, 3) := by decide +kernel
theorem dX7_init_4 : decode cX7_init 4 = .ok (.aload_n 0, 1) := by decide +kernel
theorem dX7_init_5 : decode cX7_init 5 = .ok (.bipush 100, 2) := by decide +kernel
theorem dX7_init_7 : decode cX7_init 7 = .ok (.newarray .int, 2) := by decide +kernel
theorem dX7_init_9 : decode cX7_init 9 = .ok (.putfield 9, 3) := by decide +kernel
theorem dX7_init_12 : decode cX7_init 12 = .ok (.return_, 1) := by decide +kernel
theorem dX7_add_0 : decode cX7_add 0 = .ok (.aload_n 0, 1) := by decide +kernel
theorem dX7_add_1 : decode cX7_add 1 = .ok (.getfield 15, 3) := by decide +kernel
theorem dX7_add_4 : decode cX7_add 4 = .ok (.bipush 100, 2) := by decide +kernel
theorem dX7_add_6 : decode cX7_add 6 = .ok (.if_icmp .ge 23, 3) := by decide +kernel
theorem dX7_add_9 : decode cX7_add 9 = .ok (.aload_n 0, 1) := by decide +kernel
theorem dX7_add_10 : decode cX7_add 10 = .ok (.getfield 9, 3) := by decide +kernel
theorem dX7_add_13 : decode cX7_add 13 = .ok (.aload_n 0, 1) := by decide +kernel
theorem dX7_add_14 : decode cX7_add 14 = .ok (.getfield 15, 3) := by decide +kernel
theorem dX7_add_17 : decode cX7_add 17 = .ok (.iload_n 1, 1) := by decide +kernel
theorem dX7_add_18 : decode cX7_add 18 = .ok (.iastore, 1) := by decide +kernel
theorem dX7_add_19 : decode cX7_add 19 = .ok (.aload_n 0, 1) := by decide +kernel
theorem dX7_add_20 : decode cX7_add 20 = .ok (.dup, 1) := by decide +kernel
theorem dX7_add_21 : decode cX7_add 21 = .ok (.getfield 15, 3) := by decide +kernel
theorem dX7_add_24 : decode cX7_add 24 = .ok (.iconst 1, 1) := by decide +kernel
theorem dX7_add_25 : decode cX7_add 25 = .ok (.iadd, 1) := by decide +kernel
theorem dX7_add_26 : decode cX7_add 26 = .ok (.putfield 15, 3) := by decide +kernel
theorem dX7_add_29 : decode cX7_add 29 = .ok (.return_, 1) := by decide +kernel
theorem dX7_begin_0 : decode cX7_begin 0 = .ok (.aload_n 0, 1) := by decide +kernel
theorem dX7_begin_1 : decode cX7_begin 1 = .ok (.iconst 0, 1) := by decide +kernel
theorem dX7_begin_2 : decode cX7_begin 2 = .ok (.putfield 19, 3) := by decide +kernel
theorem dX7_begin_5 : decode cX7_begin 5 = .ok (.aload_n 0, 1) := by decide +kernel
theorem dX7_begin_6 : decode cX7_begin 6 = .ok (.iconst 0, 1) := by decide +kernel
theorem dX7_begin_7 : decode cX7_begin 7 = .ok (.putfield 22, 3) := by decide +kernel
theorem dX7_begin_10 : decode cX7_begin 10 = .ok (.return_, 1) := by decide +kernel
theorem dX7_fail_0 : decode cX7_fail 0 = .ok (.aload_n 0, 1) := by decide +kernel
theorem dX7_fail_1 : decode cX7_fail 1 = .ok (.iconst 1, 1) := by decide +kernel
theorem dX7_fail_2 : decode cX7_fail 2 = .ok (.putfield 22, 3) := by decide +kernel
theorem dX7_fail_5 : decode cX7_fail 5 = .ok (.return_, 1) := by decide +kernel
theorem dX7_atEnd_0 : decode cX7_atEnd 0 = .ok (.aload_n 0, 1) := by decide +kernel
theorem dX7_atEnd_1 : decode cX7_atEnd 1 = .ok (.getfield 19, 3) := by decide +kernel
theorem dX7_atEnd_4 : decode cX7_atEnd 4 = .ok (.aload_n 0, 1) := by decide +kernel
theorem dX7_atEnd_5 : decode cX7_atEnd 5 = .ok (.getfield 15, 3) := by decide +kernel
theorem dX7_atEnd_8 : decode cX7_atEnd 8 = .ok (.if_icmp .lt 7, 3) := by decide +kernel
theorem dX7_atEnd_11 : decode cX7_atEnd 11 = .ok (.iconst 1, 1) := by decide +kernel
theorem dX7_atEnd_12 : decode cX7_atEnd 12 = .ok (.goto 4, 3) := by decide +kernel
theorem dX7_atEnd_15 : decode cX7_atEnd 15 = .ok (.iconst 0, 1) := by decide +kernel
theorem dX7_atEnd_16 : decode cX7_atEnd 16 = .ok (.ireturn, 1) := by decide +kernel
theorem dX7_next_0 : decode cX7_next 0 = .ok (.aload_n 0, 1) := by decide +kernel
theorem dX7_next_1 : decode cX7_next 1 = .ok (.getfield 22, 3) := by decide +kernel
theorem dX7_next_4 : decode cX7_next 4 = .ok (.ifCond .ne 21, 3) := by decide +kernel
theorem dX7_next_7 : decode cX7_next 7 = .ok (.aload_n 0, 1) := by decide +kernel
theorem dX7_next_8 : decode cX7_next 8 = .ok (.getfield 19, 3) := by decide +kernel
theorem dX7_next_11 : decode cX7_next 11 = .ok (.ifCond .lt 14, 3) := by decide +kernel
theorem dX7_next_14 : decode cX7_next 14 = .ok (.aload_n 0, 1) := by decide +kernel
theorem dX7_next_15 : decode cX7_next 15 = .ok (.getfield 19, 3) := by decide +kernel
theorem dX7_next_18 : decode cX7_next 18 = .ok (.aload_n 0, 1) := by decide +kernel
theorem dX7_next_19 : decode cX7_next 19 = .ok (.getfield 15, 3) := by decide +kernel
theorem dX7_next_22 : decode cX7_next 22 = .ok (.if_icmp .lt 7, 3) := by decide +kernel
theorem dX7_next_25 : decode cX7_next 25 = .ok (.iconst (-1), 1) := by decide +kernel
theorem dX7_next_26 : decode cX7_next 26 = .ok (.goto 12, 3) := by decide +kernel
theorem dX7_next_29 : decode cX7_next 29 = .ok (.aload_n 0, 1) := by decide +kernel
theorem dX7_next_30 : decode cX7_next 30 = .ok (.getfield 9, 3) := by decide +kernel
theorem dX7_next_33 : decode cX7_next 33 = .ok (.aload_n 0, 1) := by decide +kernel
theorem dX7_next_34 : decode cX7_next 34 = .ok (.getfield 19, 3) := by decide +kernel
theorem dX7_next_37 : decode cX7_next 37 = .ok (.iaload, 1) := by decide +kernel
theorem dX7_next_38 : decode cX7_next 38 = .ok (.ireturn, 1) := by decide +kernel
theorem dX7_skip_0 : decode cX7_skip 0 = .ok (.aload_n 0, 1) := by decide +kernel
theorem dX7_skip_1 : decode cX7_skip 1 = .ok (.invokevirtual 26, 3) := by decide +kernel
theorem dX7_skip_4 : decode cX7_skip 4 = .ok (.iload_n 1, 1) := by decide +kernel
theorem dX7_skip_5 : decode cX7_skip 5 = .ok (.if_icmp .eq 5, 3) := by decide +kernel
theorem dX7_skip_8 : decode cX7_skip 8 = .ok (.iconst 0, 1) := by decide +kernel
theorem dX7_skip_9 : decode cX7_skip 9 = .ok (.ireturn, 1) := by decide +kernel
theorem dX7_skip_10 : decode cX7_skip 10 = .ok (.aload_n 0, 1) := by decide +kernel
theorem dX7_skip_11 : decode cX7_skip 11 = .ok (.dup, 1) := by decide +kernel
theorem dX7_skip_12 : decode cX7_skip 12 = .ok (.getfield 19, 3) := by decide +kernel
theorem dX7_skip_15 : decode cX7_skip 15 = .ok (.iconst 1, 1) := by decide +kernel
theorem dX7_skip_16 : decode cX7_skip 16 = .ok (.iadd, 1) := by decide +kernel
theorem dX7_skip_17 : decode cX7_skip 17 = .ok (.putfield 19, 3) := by decide +kernel
theorem dX7_skip_20 : decode cX7_skip 20 = .ok (.iconst 1, 1) := by decide +kernel
theorem dX7_skip_21 : decode cX7_skip 21 = .ok (.ireturn, 1) := by decide +kernel
theorem dX7_expect_0 : decode cX7_expect 0 = .ok (.aload_n 0, 1) := by decide +kernel
theorem dX7_expect_1 : decode cX7_expect 1 = .ok (.iload_n 1, 1) := by decide +kernel
theorem dX7_expect_2 : decode cX7_expect 2 = .ok (.invokevirtual 30, 3) := by decide +kernel
theorem dX7_expect_5 : decode cX7_expect 5 = .ok (.ifCond .ne 7, 3) := by decide +kernel
theorem dX7_expect_8 : decode cX7_expect 8 = .ok (.aload_n 0, 1) := by decide +kernel
theorem dX7_expect_9 : decode cX7_expect 9 = .ok (.invokevirtual 34, 3) := by decide +kernel
theorem dX7_expect_12 : decode cX7_expect 12 = .ok (.return_, 1) := by decide +kernel
theorem dJ0_isLatin1_aae02_0 : decode cJ0_isLatin1_aae02 0 = .ok (.getstatic 38, 3) := by decide +kernel
theorem dJ0_isLatin1_aae02_3 : decode cJ0_isLatin1_aae02 3 = .ok (.ifCond .eq 14, 3) := by decide +kernel
theorem dJ0_isLatin1_aae02_6 : decode cJ0_isLatin1_aae02 6 = .ok (.aload_n 0, 1) := by decide +kernel
theorem dJ0_isLatin1_aae02_7 : decode cJ0_isLatin1_aae02 7 = .ok (.getfield 15, 3) := by decide +kernel
theorem dJ0_isLatin1_aae02_10 : decode cJ0_isLatin1_aae02 10 = .ok (.ifCond .ne 7, 3) := by decide +kernel
theorem dJ0_isLatin1_aae02_13 : decode cJ0_isLatin1_aae02 13 = .ok (.iconst 1, 1) := by decide +kernel
theorem dJ0_isLatin1_aae02_14 : decode cJ0_isLatin1_aae02 14 = .ok (.goto 4, 3) := by decide +kernel
theorem dJ0_isLatin1_aae02_17 : decode cJ0_isLatin1_aae02 17 = .ok (.iconst 0, 1) := by decide +kernel
theorem dJ0_isLatin1_aae02_18 : decode cJ0_isLatin1_aae02 18 = .ok (.ireturn, 1) := by decide +kernel
theorem dJ0_coder_7d493_0 : decode cJ0_coder_7d493 0 = .ok (.getstatic 38, 3) := by decide +kernel
theorem dJ0_coder_7d493_3 : decode cJ0_coder_7d493 3 = .ok (.ifCond .eq 10, 3) := by decide +kernel
theorem dJ0_coder_7d493_6 : decode cJ0_coder_7d493 6 = .ok (.aload_n 0, 1) := by decide +kernel
theorem dJ0_coder_7d493_7 : decode cJ0_coder_7d493 7 = .ok (.getfield 15, 3) := by decide +kernel
theorem dJ0_coder_7d493_10 : decode cJ0_coder_7d493 10 = .ok (.goto 4, 3) := by decide +kernel
theorem dJ0_coder_7d493_13 : decode cJ0_coder_7d493 13 = .ok (.iconst 1, 1) := by decide +kernel
theorem dJ0_coder_7d493_14 : decode cJ0_coder_7d493 14 = .ok (.ireturn, 1) := by decide +kernel
theorem dJ0_length_8abf5_0 : decode cJ0_length_8abf5 0 = .ok (.aload_n 0, 1) := by decide +kernel
theorem dJ0_length_8abf5_1 : decode cJ0_length_8abf5 1 = .ok (.getfield 9, 3) := by decide +kernel
theorem dJ0_length_8abf5_4 : decode cJ0_length_8abf5 4 = .ok (.arraylength, 1) := by decide +kernel
theorem dJ0_length_8abf5_5 : decode cJ0_length_8abf5 5 = .ok (.aload_n 0, 1) := by decide +kernel
theorem dJ0_length_8abf5_6 : decode cJ0_length_8abf5 6 = .ok (.invokevirtual 335, 3) := by decide +kernel
theorem dJ0_length_8abf5_9 : decode cJ0_length_8abf5 9 = .ok (.ishr, 1) := by decide +kernel
theorem dJ0_length_8abf5_10 : decode cJ0_length_8abf5 10 = .ok (.ireturn, 1) := by decide +kernel
theorem dJ1_canEncode_9a6ad_0 : decode cJ1_canEncode_9a6ad 0 = .ok (.iload_n 0, 1) := by decide +kernel
theorem dJ1_canEncode_9a6ad_1 : decode cJ1_canEncode_9a6ad 1 = .ok (.ifCond .lt 14, 3) := by decide +kernel
theorem dJ1_canEncode_9a6ad_4 : decode cJ1_canEncode_9a6ad 4 = .ok (.iload_n 0, 1) := by decide +kernel
theorem dJ1_canEncode_9a6ad_5 : decode cJ1_canEncode_9a6ad 5 = .ok (.sipush 255, 3) := by decide +kernel
theorem dJ1_canEncode_9a6ad_8 : decode cJ1_canEncode_9a6ad 8 = .ok (.if_icmp .gt 7, 3) := by decide +kernel
theorem dJ1_canEncode_9a6ad_11 : decode cJ1_canEncode_9a6ad 11 = .ok (.iconst 1, 1) := by decide +kernel
theorem dJ1_canEncode_9a6ad_12 : decode cJ1_canEncode_9a6ad 12 = .ok (.goto 4, 3) := by decide +kernel
theorem dJ1_canEncode_9a6ad_15 : decode cJ1_canEncode_9a6ad 15 = .ok (.iconst 0, 1) := by decide +kernel
theorem dJ1_canEncode_9a6ad_16 : decode cJ1_canEncode_9a6ad 16 = .ok (.ireturn, 1) := by decide +kernel
theorem dJ1_indexOfChar_4cfef_0 : decode cJ1_indexOfChar_4cfef 0 = .ok (.iload_n 1, 1) := by decide +kernel
theorem dJ1_indexOfChar_4cfef_1 : decode cJ1_indexOfChar_4cfef 1 = .ok (.i2b, 1) := by decide +kernel
theorem dJ1_indexOfChar_4cfef_2 : decode cJ1_indexOfChar_4cfef 2 = .ok (.istore 4, 2) := by decide +kernel
theorem dJ1_indexOfChar_4cfef_4 : decode cJ1_indexOfChar_4cfef 4 = .ok (.iload_n 2, 1) := by decide +kernel
theorem dJ1_indexOfChar_4cfef_5 : decode cJ1_indexOfChar_4cfef 5 = .ok (.istore 5, 2) := by decide +kernel
theorem dJ1_indexOfChar_4cfef_7 : decode cJ1_indexOfChar_4cfef 7 = .ok (.iload 5, 2) := by decide +kernel
theorem dJ1_indexOfChar_4cfef_9 : decode cJ1_indexOfChar_4cfef 9 = .ok (.iload_n 3, 1) := by decide +kernel
theorem dJ1_indexOfChar_4cfef_10 : decode cJ1_indexOfChar_4cfef 10 = .ok (.if_icmp .ge 21, 3) := by decide +kernel
theorem dJ1_indexOfChar_4cfef_13 : decode cJ1_indexOfChar_4cfef 13 = .ok (.aload_n 0, 1) := by decide +kernel
theorem dJ1_indexOfChar_4cfef_14 : decode cJ1_indexOfChar_4cfef 14 = .ok (.iload 5, 2) := by decide +kernel
theorem dJ1_indexOfChar_4cfef_16 : decode cJ1_indexOfChar_4cfef 16 = .ok (.baload, 1) := by decide +kernel
theorem dJ1_indexOfChar_4cfef_17 : decode cJ1_indexOfChar_4cfef 17 = .ok (.iload 4, 2) := by decide +kernel
theorem dJ1_indexOfChar_4cfef_19 : decode cJ1_indexOfChar_4cfef 19 = .ok (.if_icmp .ne 6, 3) := by decide +kernel
theorem dJ1_indexOfChar_4cfef_22 : decode cJ1_indexOfChar_4cfef 22 = .ok (.iload 5, 2) := by decide +kernel
theorem dJ1_indexOfChar_4cfef_24 : decode cJ1_indexOfChar_4cfef 24 = .ok (.ireturn, 1) := by decide +kernel
theorem dJ1_indexOfChar_4cfef_25 : decode cJ1_indexOfChar_4cfef 25 = .ok (.iinc 5 1, 3) := by decide +kernel
theorem dJ1_indexOfChar_4cfef_28 : decode cJ1_indexOfChar_4cfef 28 = .ok (.goto (-21), 3) := by decide +kernel
theorem dJ1_indexOfChar_4cfef_31 : decode cJ1_indexOfChar_4cfef 31 = .ok (.iconst (-1), 1) := by decide +kernel
theorem dJ1_indexOfChar_4cfef_32 : decode cJ1_indexOfChar_4cfef 32 = .ok (.ireturn, 1) := by decide +kernel
theorem dJ1_indexOf_4cfef_0 : decode cJ1_indexOf_4cfef 0 = .ok (.iload_n 1, 1) := by decide +kernel
theorem dJ1_indexOf_4cfef_1 : decode cJ1_indexOf_4cfef 1 = .ok (.invokestatic 88, 3) := by decide +kernel
theorem dJ1_indexOf_4cfef_4 : decode cJ1_indexOf_4cfef 4 = .ok (.ifCond .ne 5, 3) := by decide +kernel
theorem dJ1_indexOf_4cfef_7 : decode cJ1_indexOf_4cfef 7 = .ok (.iconst (-1), 1) := by decide +kernel
theorem dJ1_indexOf_4cfef_8 : decode cJ1_indexOf_4cfef 8 = .ok (.ireturn, 1) := by decide +kernel
theorem dJ1_indexOf_4cfef_9 : decode cJ1_indexOf_4cfef 9 = .ok (.iload_n 2, 1) := by decide +kernel
theorem dJ1_indexOf_4cfef_10 : decode cJ1_indexOf_4cfef 10 = .ok (.iconst 0, 1) := by decide +kernel
theorem dJ1_indexOf_4cfef_11 : decode cJ1_indexOf_4cfef 11 = .ok (.invokestatic 92, 3) := by decide +kernel
theorem dJ1_indexOf_4cfef_14 : decode cJ1_indexOf_4cfef 14 = .ok (.istore_n 2, 1) := by decide +kernel
theorem dJ1_indexOf_4cfef_15 : decode cJ1_indexOf_4cfef 15 = .ok (.iload_n 3, 1) := by decide +kernel
theorem dJ1_indexOf_4cfef_16 : decode cJ1_indexOf_4cfef 16 = .ok (.aload_n 0, 1) := by decide +kernel
theorem dJ1_indexOf_4cfef_17 : decode cJ1_indexOf_4cfef 17 = .ok (.arraylength, 1) := by decide +kernel
theorem dJ1_indexOf_4cfef_18 : decode cJ1_indexOf_4cfef 18 = .ok (.invokestatic 38, 3) := by decide +kernel
theorem dJ1_indexOf_4cfef_21 : decode cJ1_indexOf_4cfef 21 = .ok (.istore_n 3, 1) := by decide +kernel
theorem dJ1_indexOf_4cfef_22 : decode cJ1_indexOf_4cfef 22 = .ok (.iload_n 2, 1) := by decide +kernel
theorem dJ1_indexOf_4cfef_23 : decode cJ1_indexOf_4cfef 23 = .ok (.iload_n 3, 1) := by decide +kernel
theorem dJ1_indexOf_4cfef_24 : decode cJ1_indexOf_4cfef 24 = .ok (.if_icmp .lt 5, 3) := by decide +kernel
theorem dJ1_indexOf_4cfef_27 : decode cJ1_indexOf_4cfef 27 = .ok (.iconst (-1), 1) := by decide +kernel
theorem dJ1_indexOf_4cfef_28 : decode cJ1_indexOf_4cfef 28 = .ok (.ireturn, 1) := by decide +kernel
theorem dJ1_indexOf_4cfef_29 : decode cJ1_indexOf_4cfef 29 = .ok (.aload_n 0, 1) := by decide +kernel
theorem dJ1_indexOf_4cfef_30 : decode cJ1_indexOf_4cfef 30 = .ok (.iload_n 1, 1) := by decide +kernel
theorem dJ1_indexOf_4cfef_31 : decode cJ1_indexOf_4cfef 31 = .ok (.iload_n 2, 1) := by decide +kernel
theorem dJ1_indexOf_4cfef_32 : decode cJ1_indexOf_4cfef 32 = .ok (.iload_n 3, 1) := by decide +kernel
theorem dJ1_indexOf_4cfef_33 : decode cJ1_indexOf_4cfef 33 = .ok (.invokestatic 95, 3) := by decide +kernel
theorem dJ1_indexOf_4cfef_36 : decode cJ1_indexOf_4cfef 36 = .ok (.ireturn, 1) := by decide +kernel
theorem dJ0_indexOf_7cf53_0 : decode cJ0_indexOf_7cf53 0 = .ok (.aload_n 0, 1) := by decide +kernel
theorem dJ0_indexOf_7cf53_1 : decode cJ0_indexOf_7cf53 1 = .ok (.invokevirtual 492, 3) := by decide +kernel
theorem dJ0_indexOf_7cf53_4 : decode cJ0_indexOf_7cf53 4 = .ok (.ifCond .eq 19, 3) := by decide +kernel
theorem dJ0_indexOf_7cf53_7 : decode cJ0_indexOf_7cf53 7 = .ok (.aload_n 0, 1) := by decide +kernel
theorem dJ0_indexOf_7cf53_8 : decode cJ0_indexOf_7cf53 8 = .ok (.getfield 9, 3) := by decide +kernel
theorem dJ0_indexOf_7cf53_11 : decode cJ0_indexOf_7cf53 11 = .ok (.iload_n 1, 1) := by decide +kernel
theorem dJ0_indexOf_7cf53_12 : decode cJ0_indexOf_7cf53 12 = .ok (.iload_n 2, 1) := by decide +kernel
theorem dJ0_indexOf_7cf53_13 : decode cJ0_indexOf_7cf53 13 = .ok (.aload_n 0, 1) := by decide +kernel
theorem dJ0_indexOf_7cf53_14 : decode cJ0_indexOf_7cf53 14 = .ok (.invokevirtual 505, 3) := by decide +kernel
theorem dJ0_indexOf_7cf53_17 : decode cJ0_indexOf_7cf53 17 = .ok (.invokestatic 637, 3) := by decide +kernel
theorem dJ0_indexOf_7cf53_20 : decode cJ0_indexOf_7cf53 20 = .ok (.goto 16, 3) := by decide +kernel
theorem dJ0_indexOf_7cf53_23 : decode cJ0_indexOf_7cf53 23 = .ok (.aload_n 0, 1) := by decide +kernel
theorem dJ0_indexOf_7cf53_24 : decode cJ0_indexOf_7cf53 24 = .ok (.getfield 9, 3) := by decide +kernel
theorem dJ0_indexOf_7cf53_27 : decode cJ0_indexOf_7cf53 27 = .ok (.iload_n 1, 1) := by decide +kernel
theorem dJ0_indexOf_7cf53_28 : decode cJ0_indexOf_7cf53 28 = .ok (.iload_n 2, 1) := by decide +kernel
theorem dJ0_indexOf_7cf53_29 : decode cJ0_indexOf_7cf53 29 = .ok (.aload_n 0, 1) := by decide +kernel
theorem dJ0_indexOf_7cf53_30 : decode cJ0_indexOf_7cf53 30 = .ok (.invokevirtual 505, 3) := by decide +kernel
theorem dJ0_indexOf_7cf53_33 : decode cJ0_indexOf_7cf53 33 = .ok (.invokestatic 640, 3) := by decide +kernel
theorem dJ0_indexOf_7cf53_36 : decode cJ0_indexOf_7cf53 36 = .ok (.ireturn, 1) := by decide +kernel
theorem dJ0_indexOf_0f7a4_0 : decode cJ0_indexOf_0f7a4 0 = .ok (.aload_n 0, 1) := by decide +kernel
theorem dJ0_indexOf_0f7a4_1 : decode cJ0_indexOf_0f7a4 1 = .ok (.iload_n 1, 1) := by decide +kernel
theorem dJ0_indexOf_0f7a4_2 : decode cJ0_indexOf_0f7a4 2 = .ok (.iconst 0, 1) := by decide +kernel
theorem dJ0_indexOf_0f7a4_3 : decode cJ0_indexOf_0f7a4 3 = .ok (.invokevirtual 633, 3) := by decide +kernel
theorem dJ0_indexOf_0f7a4_6 : decode cJ0_indexOf_0f7a4 6 = .ok (.ireturn, 1) := by decide +kernel
theorem dX7_oneOf_0 : decode cX7_oneOf 0 = .ok (.aload_n 0, 1) := by decide +kernel
theorem dX7_oneOf_1 : decode cX7_oneOf 1 = .ok (.invokevirtual 26, 3) := by decide +kernel
theorem dX7_oneOf_4 : decode cX7_oneOf 4 = .ok (.istore_n 2, 1) := by decide +kernel
theorem dX7_oneOf_5 : decode cX7_oneOf 5 = .ok (.iload_n 2, 1) := by decide +kernel
theorem dX7_oneOf_6 : decode cX7_oneOf 6 = .ok (.iconst (-1), 1) := by decide +kernel
theorem dX7_oneOf_7 : decode cX7_oneOf 7 = .ok (.if_icmp .eq 12, 3) := by decide +kernel
theorem dX7_oneOf_10 : decode cX7_oneOf 10 = .ok (.aload_n 1, 1) := by decide +kernel
theorem dX7_oneOf_11 : decode cX7_oneOf 11 = .ok (.iload_n 2, 1) := by decide +kernel
theorem dX7_oneOf_12 : decode cX7_oneOf 12 = .ok (.i2c, 1) := by decide +kernel
theorem dX7_oneOf_13 : decode cX7_oneOf 13 = .ok (.invokevirtual 37, 3) := by decide +kernel
theorem dX7_oneOf_16 : decode cX7_oneOf 16 = .ok (.ifCond .ge 9, 3) := by decide +kernel
theorem dX7_oneOf_19 : decode cX7_oneOf 19 = .ok (.aload_n 0, 1) := by decide +kernel
theorem dX7_oneOf_20 : decode cX7_oneOf 20 = .ok (.invokevirtual 34, 3) := by decide +kernel
theorem dX7_oneOf_23 : decode cX7_oneOf 23 = .ok (.iconst (-1), 1) := by decide +kernel
theorem dX7_oneOf_24 : decode cX7_oneOf 24 = .ok (.ireturn, 1) := by decide +kernel
theorem dX7_oneOf_25 : decode cX7_oneOf 25 = .ok (.aload_n 0, 1) := by decide +kernel
theorem dX7_oneOf_26 : decode cX7_oneOf 26 = .ok (.dup, 1) := by decide +kernel
theorem dX7_oneOf_27 : decode cX7_oneOf 27 = .ok (.getfield 19, 3) := by decide +kernel
theorem dX7_oneOf_30 : decode cX7_oneOf 30 = .ok (.iconst 1, 1) := by decide +kernel
theorem dX7_oneOf_31 : decode cX7_oneOf 31 = .ok (.iadd, 1) := by decide +kernel
theorem dX7_oneOf_32 : decode cX7_oneOf 32 = .ok (.putfield 19, 3) := by decide +kernel
theorem dX7_oneOf_35 : decode cX7_oneOf 35 = .ok (.iload_n 2, 1) := by decide +kernel
theorem dX7_oneOf_36 : decode cX7_oneOf 36 = .ok (.ireturn, 1) := by decide +kernel
theorem dX7_number_0 : decode cX7_number 0 = .ok (.iconst 0, 1) := by decide +kernel
theorem dX7_number_1 : decode cX7_number 1 = .ok (.istore_n 2, 1) := by decide +kernel
theorem dX7_number_2 : decode cX7_number 2 = .ok (.iconst 0, 1) := by decide +kernel
theorem dX7_number_3 : decode cX7_number 3 = .ok (.istore_n 3, 1) := by decide +kernel
theorem dX7_number_4 : decode cX7_number 4 = .ok (.aload_n 0, 1) := by decide +kernel
theorem dX7_number_5 : decode cX7_number 5 = .ok (.invokevirtual 26, 3) := by decide +kernel
theorem dX7_number_8 : decode cX7_number 8 = .ok (.istore 4, 2) := by decide +kernel
theorem dX7_number_10 : decode cX7_number 10 = .ok (.iload_n 3, 1) := by decide +kernel
theorem dX7_number_11 : decode cX7_number 11 = .ok (.iload_n 1, 1) := by decide +kernel
theorem dX7_number_12 : decode cX7_number 12 = .ok (.if_icmp .ge 50, 3) := by decide +kernel
theorem dX7_number_15 : decode cX7_number 15 = .ok (.iload 4, 2) := by decide +kernel
theorem dX7_number_17 : decode cX7_number 17 = .ok (.bipush 48, 2) := by decide +kernel
theorem dX7_number_19 : decode cX7_number 19 = .ok (.if_icmp .lt 43, 3) := by decide +kernel
theorem dX7_number_22 : decode cX7_number 22 = .ok (.iload 4, 2) := by decide +kernel
theorem dX7_number_24 : decode cX7_number 24 = .ok (.bipush 57, 2) := by decide +kernel
theorem dX7_number_26 : decode cX7_number 26 = .ok (.if_icmp .gt 36, 3) := by decide +kernel
theorem dX7_number_29 : decode cX7_number 29 = .ok (.iload_n 2, 1) := by decide +kernel
theorem dX7_number_30 : decode cX7_number 30 = .ok (.bipush 10, 2) := by decide +kernel
theorem dX7_number_32 : decode cX7_number 32 = .ok (.imul, 1) := by decide +kernel
theorem dX7_number_33 : decode cX7_number 33 = .ok (.iload 4, 2) := by decide +kernel
theorem dX7_number_35 : decode cX7_number 35 = .ok (.iadd, 1) := by decide +kernel
theorem dX7_number_36 : decode cX7_number 36 = .ok (.bipush 48, 2) := by decide +kernel
theorem dX7_number_38 : decode cX7_number 38 = .ok (.isub, 1) := by decide +kernel
theorem dX7_number_39 : decode cX7_number 39 = .ok (.istore_n 2, 1) := by decide +kernel
theorem dX7_number_40 : decode cX7_number 40 = .ok (.aload_n 0, 1) := by decide +kernel
theorem dX7_number_41 : decode cX7_number 41 = .ok (.dup, 1) := by decide +kernel
theorem dX7_number_42 : decode cX7_number 42 = .ok (.getfield 19, 3) := by decide +kernel
theorem dX7_number_45 : decode cX7_number 45 = .ok (.iconst 1, 1) := by decide +kernel
theorem dX7_number_46 : decode cX7_number 46 = .ok (.iadd, 1) := by decide +kernel
theorem dX7_number_47 : decode cX7_number 47 = .ok (.putfield 19, 3) := by decide +kernel
theorem dX7_number_50 : decode cX7_number 50 = .ok (.iinc 3 1, 3) := by decide +kernel
theorem dX7_number_53 : decode cX7_number 53 = .ok (.aload_n 0, 1) := by decide +kernel
theorem dX7_number_54 : decode cX7_number 54 = .ok (.invokevirtual 26, 3) := by decide +kernel
theorem dX7_number_57 : decode cX7_number 57 = .ok (.istore 4, 2) := by decide +kernel
theorem dX7_number_59 : decode cX7_number 59 = .ok (.goto (-49), 3) := by decide +kernel
theorem dX7_number_62 : decode cX7_number 62 = .ok (.iload_n 3, 1) := by decide +kernel
theorem dX7_number_63 : decode cX7_number 63 = .ok (.ifCond .ne 7, 3) := by decide +kernel
theorem dX7_number_66 : decode cX7_number 66 = .ok (.aload_n 0, 1) := by decide +kernel
theorem dX7_number_67 : decode cX7_number 67 = .ok (.invokevirtual 34, 3) := by decide +kernel
theorem dX7_number_70 : decode cX7_number 70 = .ok (.iload_n 2, 1) := by decide +kernel
theorem dX7_number_71 : decode cX7_number 71 = .ok (.ireturn, 1) := by decide +kernel
theorem wd_108 : (Jvm.Cond.methodLink "HeapBrowser$Search" (3 : Nat) ({ cls := "java/lang/Object", name := "<init>", desc := "()V" } : Jvm.MethodName)) ∈ hb_wl := hb_w 108 (by decide +kernel) (by decide +kernel)
theorem lpX6_init_9 : hb_lkP yX6_init 9 6 0 := ⟨RX6, TX6, 5, rfl, by decide, rfl, Or.inr ⟨rfl, rfl, rfl, hb_w 109 (by decide +kernel) (by decide +kernel)⟩⟩
theorem lpX6_init_15 : hb_lkP yX6_init 15 6 1 := ⟨RX6, TX6, 5, rfl, by decide, rfl, Or.inr ⟨rfl, rfl, rfl, hb_w 111 (by decide +kernel) (by decide +kernel)⟩⟩
theorem lpX6_init_18 : hb_lkP yX6_init 18 6 2 := ⟨RX6, TX6, 5, rfl, by decide, rfl, Or.inr ⟨rfl, rfl, rfl, hb_w 114 (by decide +kernel) (by decide +kernel)⟩⟩
theorem wd_102 : (Jvm.Cond.methodLink "HeapBrowser$Analysis" (3 : Nat) ({ cls := "java/lang/Object", name := "<init>", desc := "()V" } : Jvm.MethodName)) ∈ hb_wl := hb_w 102 (by decide +kernel) (by decide +kernel)
theorem wd_103 : (Jvm.Cond.classLink "HeapBrowser$Analysis" (9 : Nat) "HeapBrowser$Search") ∈ hb_wl := hb_w 103 (by decide +kernel) (by decide +kernel)
theorem wd_104 : (Jvm.Cond.instantiable "HeapBrowser$Search" (5 : Nat)) ∈ hb_wl := hb_w 104 (by decide +kernel) (by decide +kernel)
theorem wd_5 : (Jvm.Cond.initialized "HeapBrowser$Search") ∈ hb_wl := hb_w 5 (by decide +kernel) (by decide +kernel)
theorem lnX0_11 : Cond.methodLinkNest RX0 11 yX6_init "HeapBrowser" ∈ hb_nw := List.mem_of_getElem? (i := 35) (by decide +kernel)
theorem lpX0_init_12 : hb_lkP yX0_init 12 0 1 := ⟨RX0, TX0, 13, rfl, by decide, rfl, Or.inr ⟨rfl, rfl, rfl, hb_w 132 (by decide +kernel) (by decide +kernel)⟩⟩
theorem lpX0_init_18 : hb_lkP yX0_init 18 0 2 := ⟨RX0, TX0, 13, rfl, by decide, rfl, Or.inr ⟨rfl, rfl, rfl, hb_w 135 (by decide +kernel) (by decide +kernel)⟩⟩
theorem lpX0_init_21 : hb_lkP yX0_init 21 0 3 := ⟨RX0, TX0, 13, rfl, by decide, rfl, Or.inr ⟨rfl, rfl, rfl, hb_w 136 (by decide +kernel) (by decide +kernel)⟩⟩
theorem lpX0_init_25 : hb_lkP yX0_init 25 0 4 := ⟨RX0, TX0, 13, rfl, by decide, rfl, Or.inr ⟨rfl, rfl, rfl, hb_w 137 (by decide +kernel) (by decide +kernel)⟩⟩
theorem lpX0_init_29 : hb_lkP yX0_init 29 0 5 := ⟨RX0, TX0, 13, rfl, by decide, rfl, Or.inr ⟨rfl, rfl, rfl, hb_w 139 (by decide +kernel) (by decide +kernel)⟩⟩
theorem lpX0_init_32 : hb_lkP yX0_init 32 0 6 := ⟨RX0, TX0, 13, rfl, by decide, rfl, Or.inr ⟨rfl, rfl, rfl, hb_w 141 (by decide +kernel) (by decide +kernel)⟩⟩
theorem lpX0_init_35 : hb_lkP yX0_init 35 0 7 := ⟨RX0, TX0, 13, rfl, by decide, rfl, Or.inr ⟨rfl, rfl, rfl, hb_w 144 (by decide +kernel) (by decide +kernel)⟩⟩
theorem lpX0_init_38 : hb_lkP yX0_init 38 0 8 := ⟨RX0, TX0, 13, rfl, by decide, rfl, Or.inr ⟨rfl, rfl, rfl, hb_w 147 (by decide +kernel) (by decide +kernel)⟩⟩
theorem lpX0_init_41 : hb_lkP yX0_init 41 0 9 := ⟨RX0, TX0, 13, rfl, by decide, rfl, Or.inr ⟨rfl, rfl, rfl, hb_w 150 (by decide +kernel) (by decide +kernel)⟩⟩
theorem lpX0_init_44 : hb_lkP yX0_init 44 0 10 := ⟨RX0, TX0, 13, rfl, by decide, rfl, Or.inr ⟨rfl, rfl, rfl, hb_w 151 (by decide +kernel) (by decide +kernel)⟩⟩
theorem lpX0_init_47 : hb_lkP yX0_init 47 0 0 := ⟨RX0, TX0, 13, rfl, by decide, rfl, Or.inr ⟨rfl, rfl, rfl, hb_w 131 (by decide +kernel) (by decide +kernel)⟩⟩
theorem lpX0_init_51 : hb_lkP yX0_init 51 0 12 := ⟨RX0, TX0, 13, rfl, by decide, rfl, Or.inl ⟨rfl, Or.inl (hb_w 155 (by decide +kernel) (by decide +kernel))⟩⟩
theorem lkX6_27 : hb_lkF RX6 27 6 3 := ⟨RX6, TX6, 5, rfl, by decide, rfl, Or.inl (hb_w 115 (by decide +kernel) (by decide +kernel))⟩
theorem lkX6_9 : hb_lkF RX6 9 6 0 := ⟨RX6, TX6, 5, rfl, by decide, rfl, Or.inl (hb_w 109 (by decide +kernel) (by decide +kernel))⟩
theorem lpX6_enter_27 : hb_lkP yX6_enter 27 6 3 := ⟨RX6, TX6, 5, rfl, by decide, rfl, Or.inl ⟨rfl, Or.inl (hb_w 115 (by decide +kernel) (by decide +kernel))⟩⟩
theorem lkX6_15 : hb_lkF RX6 15 6 1 := ⟨RX6, TX6, 5, rfl, by decide, rfl, Or.inl (hb_w 111 (by decide +kernel) (by decide +kernel))⟩
theorem lkX6_18 : hb_lkF RX6 18 6 2 := ⟨RX6, TX6, 5, rfl, by decide, rfl, Or.inl (hb_w 114 (by decide +kernel) (by decide +kernel))⟩
theorem lkX6_31 : hb_lkF RX6 31 6 4 := ⟨RX6, TX6, 5, rfl, by decide, rfl, Or.inl (hb_w 117 (by decide +kernel) (by decide +kernel))⟩
theorem wd_363 : (Jvm.Cond.constantLong "HeapBrowser$Search" (35 : Nat) (-1 : Int64)) ∈ hb_wl := hb_w 363 (by decide +kernel) (by decide +kernel)
theorem lpX6_enter_31 : hb_lkP yX6_enter 31 6 4 := ⟨RX6, TX6, 5, rfl, by decide, rfl, Or.inl ⟨rfl, Or.inl (hb_w 117 (by decide +kernel) (by decide +kernel))⟩⟩
theorem lnX6_45 : Cond.methodLinkNest RX6 45 yX8_member "HeapBrowser" ∈ hb_nw := List.mem_of_getElem? (i := 39) (by decide +kernel)
theorem lmX6_41 : Cond.methodLink RX6 41 yX6_targetsOf ∈ hb_wl := hb_w 368 (by decide +kernel) (by decide +kernel)
theorem lmX6_37 : Cond.methodLink RX6 37 yX6_enter ∈ hb_wl := hb_w 364 (by decide +kernel) (by decide +kernel)
theorem lmX6_21 : Cond.methodLink RX6 21 yJ7_fill_53178 ∈ hb_wl := hb_w 362 (by decide +kernel) (by decide +kernel)
theorem lpX6_run_27 : hb_lkP yX6_run 27 6 3 := ⟨RX6, TX6, 5, rfl, by decide, rfl, Or.inl ⟨rfl, Or.inl (hb_w 115 (by decide +kernel) (by decide +kernel))⟩⟩
theorem lpX6_run_31 : hb_lkP yX6_run 31 6 4 := ⟨RX6, TX6, 5, rfl, by decide, rfl, Or.inl ⟨rfl, Or.inl (hb_w 117 (by decide +kernel) (by decide +kernel))⟩⟩
theorem lkX0_25 : hb_lkF RX0 25 0 4 := ⟨RX0, TX0, 13, rfl, by decide, rfl, Or.inl (hb_w 137 (by decide +kernel) (by decide +kernel))⟩
theorem lkX0_21 : hb_lkF RX0 21 0 3 := ⟨RX0, TX0, 13, rfl, by decide, rfl, Or.inl (hb_w 136 (by decide +kernel) (by decide +kernel))⟩
theorem lnX0_105 : Cond.methodLinkNest RX0 105 yX8_member "HeapBrowser" ∈ hb_nw := List.mem_of_getElem? (i := 42) (by decide +kernel)
theorem lkX0_12 : hb_lkF RX0 12 0 1 := ⟨RX0, TX0, 13, rfl, by decide, rfl, Or.inl (hb_w 132 (by decide +kernel) (by decide +kernel))⟩
theorem lkX0_109 : hb_lkF RX0 109 6 3 := ⟨RX6, TX6, 5, rfl, by decide, rfl, Or.inr (List.mem_of_getElem? (i := 13) (by decide +kernel))⟩
theorem lkX0_112 : hb_lkF RX0 112 6 0 := ⟨RX6, TX6, 5, rfl, by decide, rfl, Or.inr (List.mem_of_getElem? (i := 10) (by decide +kernel))⟩
theorem lmX0_115 : Cond.methodLink RX0 115 yX0_narrowTargets ∈ hb_wl := hb_w 385 (by decide +kernel) (by decide +kernel)
theorem lkX0_72 : hb_lkF RX0 72 6 4 := ⟨RX6, TX6, 5, rfl, by decide, rfl, Or.inr (List.mem_of_getElem? (i := 14) (by decide +kernel))⟩
theorem lnX0_101 : Cond.methodLinkNest RX0 101 yX8_contains "HeapBrowser" ∈ hb_nw := List.mem_of_getElem? (i := 41) (by decide +kernel)
theorem lkX0_47 : hb_lkF RX0 47 0 0 := ⟨RX0, TX0, 13, rfl, by decide, rfl, Or.inl (hb_w 131 (by decide +kernel) (by decide +kernel))⟩
theorem lmX0_64 : Cond.methodLink RX0 64 yX4_allRoots ∈ hb_wl := hb_w 351 (by decide +kernel) (by decide +kernel)
theorem lmX0_119 : Cond.methodLink RX0 119 yJ13_bitCount_95d88 ∈ hb_wl := hb_w 393 (by decide +kernel) (by decide +kernel)
theorem lkX0_29 : hb_lkF RX0 29 0 5 := ⟨RX0, TX0, 13, rfl, by decide, rfl, Or.inl (hb_w 139 (by decide +kernel) (by decide +kernel))⟩
theorem lkX0_32 : hb_lkF RX0 32 0 6 := ⟨RX0, TX0, 13, rfl, by decide, rfl, Or.inl (hb_w 141 (by decide +kernel) (by decide +kernel))⟩
theorem lmX0_124 : Cond.methodLink RX0 124 yX0_dominatedBy ∈ hb_wl := hb_w 403 (by decide +kernel) (by decide +kernel)
theorem lmX0_76 : Cond.methodLink RX0 76 yX4_sizeOfAll ∈ hb_wl := hb_w 372 (by decide +kernel) (by decide +kernel)
theorem lkX0_35 : hb_lkF RX0 35 0 7 := ⟨RX0, TX0, 13, rfl, by decide, rfl, Or.inl (hb_w 144 (by decide +kernel) (by decide +kernel))⟩
theorem lkX0_38 : hb_lkF RX0 38 0 8 := ⟨RX0, TX0, 13, rfl, by decide, rfl, Or.inl (hb_w 147 (by decide +kernel) (by decide +kernel))⟩
theorem lmX0_127 : Cond.methodLink RX0 127 yJ7_fill_53178 ∈ hb_wl := hb_w 411 (by decide +kernel) (by decide +kernel)
theorem lkX0_41 : hb_lkF RX0 41 0 9 := ⟨RX0, TX0, 13, rfl, by decide, rfl, Or.inl (hb_w 150 (by decide +kernel) (by decide +kernel))⟩
theorem lmX0_136 : Cond.methodLink RX0 136 yX6_targetsOf ∈ hb_wl := hb_w 420 (by decide +kernel) (by decide +kernel)
theorem lmX0_133 : Cond.methodLink RX0 133 yX4_allObjects ∈ hb_wl := hb_w 416 (by decide +kernel) (by decide +kernel)
theorem lkX0_44 : hb_lkF RX0 44 0 10 := ⟨RX0, TX0, 13, rfl, by decide, rfl, Or.inl (hb_w 151 (by decide +kernel) (by decide +kernel))⟩
theorem lkX0_51 : hb_lkF RX0 51 0 12 := ⟨RX0, TX0, 13, rfl, by decide, rfl, Or.inl (hb_w 155 (by decide +kernel) (by decide +kernel))⟩
theorem lkX0_55 : hb_lkF RX0 55 4 12 := ⟨RX4, TX4, 13, rfl, by decide, rfl, Or.inr (List.mem_of_getElem? (i := 9) (by decide +kernel))⟩
theorem lpX0_refresh_51 : hb_lkP yX0_refresh 51 0 12 := ⟨RX0, TX0, 13, rfl, by decide, rfl, Or.inl ⟨rfl, Or.inl (hb_w 155 (by decide +kernel) (by decide +kernel))⟩⟩
theorem lmX0_60 : Cond.methodLink RX0 60 yX4_writeReferences ∈ hb_wl := hb_w 347 (by decide +kernel) (by decide +kernel)
theorem lmX0_68 : Cond.methodLink RX0 68 yX6_run ∈ hb_wl := hb_w 358 (by decide +kernel) (by decide +kernel)
theorem lpX0_refresh_80 : hb_lkP yX0_refresh 80 0 11 := ⟨RX0, TX0, 13, rfl, by decide, rfl, Or.inl ⟨rfl, Or.inl (hb_w 153 (by decide +kernel) (by decide +kernel))⟩⟩
theorem lmX0_83 : Cond.methodLink RX0 83 yX0_findDominators ∈ hb_wl := hb_w 379 (by decide +kernel) (by decide +kernel)
theorem lmX0_86 : Cond.methodLink RX0 86 yX0_findImmediate ∈ hb_wl := hb_w 389 (by decide +kernel) (by decide +kernel)
theorem lmX0_89 : Cond.methodLink RX0 89 yX0_findRetained ∈ hb_wl := hb_w 399 (by decide +kernel) (by decide +kernel)
theorem lmX0_92 : Cond.methodLink RX0 92 yX0_countReferences ∈ hb_wl := hb_w 407 (by decide +kernel) (by decide +kernel)
theorem lmX0_95 : Cond.methodLink RX0 95 yX0_findLed ∈ hb_wl := hb_w 412 (by decide +kernel) (by decide +kernel)
theorem lmX0_98 : Cond.methodLink RX0 98 yX0_findComponents ∈ hb_wl := hb_w 421 (by decide +kernel) (by decide +kernel)
theorem lmX0_140 : Cond.methodLink RX0 140 yX0_refresh ∈ hb_wl := hb_w 343 (by decide +kernel) (by decide +kernel)
theorem lmX0_143 : Cond.methodLink RX0 143 yX4_removeAllBut ∈ hb_wl := hb_w 425 (by decide +kernel) (by decide +kernel)
theorem lkX0_18 : hb_lkF RX0 18 0 2 := ⟨RX0, TX0, 13, rfl, by decide, rfl, Or.inl (hb_w 135 (by decide +kernel) (by decide +kernel))⟩
theorem wd_664 : (Jvm.Cond.constantLong "HeapBrowser$Analysis" (150 : Nat) (-1 : Int64)) ∈ hb_wl := hb_w 664 (by decide +kernel) (by decide +kernel)
theorem lmX0_146 : Cond.methodLink RX0 146 yX0_lostByTrial ∈ hb_wl := hb_w 660 (by decide +kernel) (by decide +kernel)
theorem lkX0_80 : hb_lkF RX0 80 0 11 := ⟨RX0, TX0, 13, rfl, by decide, rfl, Or.inl (hb_w 153 (by decide +kernel) (by decide +kernel))⟩
theorem lmX0_152 : Cond.methodLink RX0 152 yX0_retainingAtLeast ∈ hb_wl := hb_w 1222 (by decide +kernel) (by decide +kernel)
theorem lmX0_156 : Cond.methodLink RX0 156 yX0_children ∈ hb_wl := hb_w 1243 (by decide +kernel) (by decide +kernel)
theorem lmX0_159 : Cond.methodLink RX0 159 yX0_greatest ∈ hb_wl := hb_w 1244 (by decide +kernel) (by decide +kernel)
theorem wd_278 : (Jvm.Cond.methodLink "HeapBrowser$Draw" (3 : Nat) ({ cls := "java/lang/Object", name := "<init>", desc := "()V" } : Jvm.MethodName)) ∈ hb_wl := hb_w 278 (by decide +kernel) (by decide +kernel)
theorem lpX2_begin_9 : hb_lkP yX2_begin 9 2 0 := ⟨RX2, TX2, 1, rfl, by decide, rfl, Or.inl ⟨rfl, Or.inl (hb_w 279 (by decide +kernel) (by decide +kernel))⟩⟩
theorem lkX2_9 : hb_lkF RX2 9 2 0 := ⟨RX2, TX2, 1, rfl, by decide, rfl, Or.inl (hb_w 279 (by decide +kernel) (by decide +kernel))⟩
theorem wd_1059 : (Jvm.Cond.constantLong "HeapBrowser$Draw" (15 : Nat) (1103515245 : Int64)) ∈ hb_wl := hb_w 1059 (by decide +kernel) (by decide +kernel)
theorem wd_1060 : (Jvm.Cond.constantLong "HeapBrowser$Draw" (17 : Nat) (12345 : Int64)) ∈ hb_wl := hb_w 1060 (by decide +kernel) (by decide +kernel)
theorem wd_1061 : (Jvm.Cond.constantLong "HeapBrowser$Draw" (19 : Nat) (2147483648 : Int64)) ∈ hb_wl := hb_w 1061 (by decide +kernel) (by decide +kernel)
theorem lpX2_below_9 : hb_lkP yX2_below 9 2 0 := ⟨RX2, TX2, 1, rfl, by decide, rfl, Or.inl ⟨rfl, Or.inl (hb_w 279 (by decide +kernel) (by decide +kernel))⟩⟩
theorem wd_1062 : (Jvm.Cond.constantLong "HeapBrowser$Draw" (21 : Nat) (65536 : Int64)) ∈ hb_wl := hb_w 1062 (by decide +kernel) (by decide +kernel)
theorem lmX2_33 : Cond.methodLink RX2 33 yX2_below ∈ hb_wl := hb_w 1055 (by decide +kernel) (by decide +kernel)
theorem lmX2_63 : Cond.methodLink RX2 63 yX4_addArray ∈ hb_wl := hb_w 1063 (by decide +kernel) (by decide +kernel)
theorem lmX2_66 : Cond.methodLink RX2 66 yX4_addHolder ∈ hb_wl := hb_w 1064 (by decide +kernel) (by decide +kernel)
theorem lkX2_70 : hb_lkF RX2 70 4 0 := ⟨RX4, TX4, 13, rfl, by decide, rfl, Or.inr (List.mem_of_getElem? (i := 1) (by decide +kernel))⟩
theorem lmX2_74 : Cond.methodLink RX2 74 yX4_addInstance ∈ hb_wl := hb_w 1065 (by decide +kernel) (by decide +kernel)
theorem lmX8_205 : Cond.methodLink RX8 205 yX8_contains ∈ hb_wl := hb_w 651 (by decide +kernel) (by decide +kernel)
theorem lmX2_55 : Cond.methodLink RX2 55 yX4_hasObject ∈ hb_wl := hb_w 1071 (by decide +kernel) (by decide +kernel)
theorem lmX2_59 : Cond.methodLink RX2 59 yX4_putRoots ∈ hb_wl := hb_w 1072 (by decide +kernel) (by decide +kernel)
theorem lmX2_27 : Cond.methodLink RX2 27 yX4_hasSlot ∈ hb_wl := hb_w 1066 (by decide +kernel) (by decide +kernel)
theorem lmX2_37 : Cond.methodLink RX2 37 yX4_allObjects ∈ hb_wl := hb_w 1067 (by decide +kernel) (by decide +kernel)
theorem lmX2_41 : Cond.methodLink RX2 41 yJ13_bitCount_95d88 ∈ hb_wl := hb_w 1068 (by decide +kernel) (by decide +kernel)
theorem lnX2_47 : Cond.methodLinkNest RX2 47 yX8_memberAt "HeapBrowser" ∈ hb_nw := List.mem_of_getElem? (i := 45) (by decide +kernel)
theorem lmX2_51 : Cond.methodLink RX2 51 yX4_putTarget ∈ hb_wl := hb_w 1070 (by decide +kernel) (by decide +kernel)
theorem lmX2_23 : Cond.methodLink RX2 23 yX2_newObject ∈ hb_wl := hb_w 1051 (by decide +kernel) (by decide +kernel)
theorem wd_189 : (Jvm.Cond.methodLink "HeapBrowser$History" (3 : Nat) ({ cls := "java/lang/Object", name := "<init>", desc := "()V" } : Jvm.MethodName)) ∈ hb_wl := hb_w 189 (by decide +kernel) (by decide +kernel)
theorem wd_190 : (Jvm.Cond.classLink "HeapBrowser$History" (9 : Nat) "HeapBrowser$Heap") ∈ hb_wl := hb_w 190 (by decide +kernel) (by decide +kernel)
theorem lpX5_init_11 : hb_lkP yX5_init 11 5 0 := ⟨RX5, TX5, 2, rfl, by decide, rfl, Or.inr ⟨rfl, rfl, rfl, hb_w 193 (by decide +kernel) (by decide +kernel)⟩⟩
theorem lkX5_11 : hb_lkF RX5 11 5 0 := ⟨RX5, TX5, 2, rfl, by decide, rfl, Or.inl (hb_w 193 (by decide +kernel) (by decide +kernel))⟩
theorem wd_38 : (Jvm.Cond.instantiable "HeapBrowser$Heap" (13 : Nat)) ∈ hb_wl := hb_w 38 (by decide +kernel) (by decide +kernel)
theorem wd_2 : (Jvm.Cond.initialized "HeapBrowser$Heap") ∈ hb_wl := hb_w 2 (by decide +kernel) (by decide +kernel)
theorem lmX5_17 : Cond.methodLink RX5 17 yX4_init ∈ hb_wl := hb_w 192 (by decide +kernel) (by decide +kernel)
theorem lkX5_18 : hb_lkF RX5 18 5 1 := ⟨RX5, TX5, 2, rfl, by decide, rfl, Or.inl (hb_w 194 (by decide +kernel) (by decide +kernel))⟩
theorem lmX5_22 : Cond.methodLink RX5 22 yX4_copyFrom ∈ hb_wl := hb_w 328 (by decide +kernel) (by decide +kernel)
theorem lpX5_keepNoted_18 : hb_lkP yX5_keepNoted 18 5 1 := ⟨RX5, TX5, 2, rfl, by decide, rfl, Or.inl ⟨rfl, Or.inl (hb_w 194 (by decide +kernel) (by decide +kernel))⟩⟩
theorem lmX5_26 : Cond.methodLink RX5 26 yX5_note ∈ hb_wl := hb_w 324 (by decide +kernel) (by decide +kernel)
theorem lmX5_29 : Cond.methodLink RX5 29 yX5_keepNoted ∈ hb_wl := hb_w 335 (by decide +kernel) (by decide +kernel)
theorem wd_1313 : (Jvm.Cond.methodLink "HeapBrowser$History" (32 : Nat) ({ cls := "java/lang/Math", name := "max", desc := "(II)I" } : Jvm.MethodName)) ∈ hb_wl := hb_w 1313 (by decide +kernel) (by decide +kernel)
theorem lpX5_dropLatest_18 : hb_lkP yX5_dropLatest 18 5 1 := ⟨RX5, TX5, 2, rfl, by decide, rfl, Or.inl ⟨rfl, Or.inl (hb_w 194 (by decide +kernel) (by decide +kernel))⟩⟩
theorem wd_206 : (Jvm.Cond.methodLink "HeapBrowser$Text" (3 : Nat) ({ cls := "java/lang/Object", name := "<init>", desc := "()V" } : Jvm.MethodName)) ∈ hb_wl := hb_w 206 (by decide +kernel) (by decide +kernel)
theorem lpX7_init_9 : hb_lkP yX7_init 9 7 0 := ⟨RX7, TX7, 4, rfl, by decide, rfl, Or.inr ⟨rfl, rfl, rfl, hb_w 207 (by decide +kernel) (by decide +kernel)⟩⟩
theorem lkX7_15 : hb_lkF RX7 15 7 1 := ⟨RX7, TX7, 4, rfl, by decide, rfl, Or.inl (hb_w 208 (by decide +kernel) (by decide +kernel))⟩
theorem lkX7_9 : hb_lkF RX7 9 7 0 := ⟨RX7, TX7, 4, rfl, by decide, rfl, Or.inl (hb_w 207 (by decide +kernel) (by decide +kernel))⟩
theorem lpX7_add_15 : hb_lkP yX7_add 15 7 1 := ⟨RX7, TX7, 4, rfl, by decide, rfl, Or.inl ⟨rfl, Or.inl (hb_w 208 (by decide +kernel) (by decide +kernel))⟩⟩
theorem lpX7_begin_19 : hb_lkP yX7_begin 19 7 2 := ⟨RX7, TX7, 4, rfl, by decide, rfl, Or.inl ⟨rfl, Or.inl (hb_w 210 (by decide +kernel) (by decide +kernel))⟩⟩
theorem lpX7_begin_22 : hb_lkP yX7_begin 22 7 3 := ⟨RX7, TX7, 4, rfl, by decide, rfl, Or.inl ⟨rfl, Or.inl (hb_w 213 (by decide +kernel) (by decide +kernel))⟩⟩
theorem lpX7_fail_22 : hb_lkP yX7_fail 22 7 3 := ⟨RX7, TX7, 4, rfl, by decide, rfl, Or.inl ⟨rfl, Or.inl (hb_w 213 (by decide +kernel) (by decide +kernel))⟩⟩
theorem lkX7_19 : hb_lkF RX7 19 7 2 := ⟨RX7, TX7, 4, rfl, by decide, rfl, Or.inl (hb_w 210 (by decide +kernel) (by decide +kernel))⟩
theorem lkX7_22 : hb_lkF RX7 22 7 3 := ⟨RX7, TX7, 4, rfl, by decide, rfl, Or.inl (hb_w 213 (by decide +kernel) (by decide +kernel))⟩
theorem lmX7_26 : Cond.methodLink RX7 26 yX7_next ∈ hb_wl := hb_w 498 (by decide +kernel) (by decide +kernel)
theorem lpX7_skip_19 : hb_lkP yX7_skip 19 7 2 := ⟨RX7, TX7, 4, rfl, by decide, rfl, Or.inl ⟨rfl, Or.inl (hb_w 210 (by decide +kernel) (by decide +kernel))⟩⟩
theorem lmX7_30 : Cond.methodLink RX7 30 yX7_skip ∈ hb_wl := hb_w 506 (by decide +kernel) (by decide +kernel)
theorem lmX7_34 : Cond.methodLink RX7 34 yX7_fail ∈ hb_wl := hb_w 507 (by decide +kernel) (by decide +kernel)
theorem wd_553 : (Jvm.Cond.fieldLink "java/lang/String" (38 : Nat) "java/lang/String" "COMPACT_STRINGS" "Z") ∈ hb_wl := hb_w 553 (by decide +kernel) (by decide +kernel)
theorem wd_1882 : (Jvm.Cond.fieldLink "java/lang/String" (15 : Nat) "java/lang/String" "coder" "B") ∈ hb_wl := hb_w 1882 (by decide +kernel) (by decide +kernel)
theorem wd_1883 : (Jvm.Cond.fieldLink "java/lang/String" (9 : Nat) "java/lang/String" "value" "[B") ∈ hb_wl := hb_w 1883 (by decide +kernel) (by decide +kernel)
theorem lmJ0_335 : Cond.methodLink RJ0 335 yJ0_coder_7d493 ∈ hb_wl := hb_w 559 (by decide +kernel) (by decide +kernel)
theorem lmJ1_88 : Cond.methodLink RJ1 88 yJ1_canEncode_9a6ad ∈ hb_wl := hb_w 566 (by decide +kernel) (by decide +kernel)
theorem wd_569 : (Jvm.Cond.methodLink "java/lang/StringLatin1" (92 : Nat) ({ cls := "java/lang/Math", name := "max", desc := "(II)I" } : Jvm.MethodName)) ∈ hb_wl := hb_w 569 (by decide +kernel) (by decide +kernel)
theorem wd_572 : (Jvm.Cond.methodLink "java/lang/StringLatin1" (38 : Nat) ({ cls := "java/lang/Math", name := "min", desc := "(II)I" } : Jvm.MethodName)) ∈ hb_wl := hb_w 572 (by decide +kernel) (by decide +kernel)
theorem lmJ1_95 : Cond.methodLink RJ1 95 yJ1_indexOfChar_4cfef ∈ hb_wl := hb_w 573 (by decide +kernel) (by decide +kernel)
theorem lmJ0_492 : Cond.methodLink RJ0 492 yJ0_isLatin1_aae02 ∈ hb_wl := hb_w 549 (by decide +kernel) (by decide +kernel)
theorem lmJ0_505 : Cond.methodLink RJ0 505 yJ0_length_8abf5 ∈ hb_wl := hb_w 555 (by decide +kernel) (by decide +kernel)
theorem lmJ0_637 : Cond.methodLink RJ0 637 yJ1_indexOf_4cfef ∈ hb_wl := hb_w 563 (by decide +kernel) (by decide +kernel)
theorem lmJ0_633 : Cond.methodLink RJ0 633 yJ0_indexOf_7cf53 ∈ hb_wl := hb_w 545 (by decide +kernel) (by decide +kernel)
theorem lmX7_37 : Cond.methodLink RX7 37 yJ0_indexOf_0f7a4 ∈ hb_wl := hb_w 541 (by decide +kernel) (by decide +kernel)
theorem lpX7_oneOf_19 : hb_lkP yX7_oneOf 19 7 2 := ⟨RX7, TX7, 4, rfl, by decide, rfl, Or.inl ⟨rfl, Or.inl (hb_w 210 (by decide +kernel) (by decide +kernel))⟩⟩
theorem lpX7_number_19 : hb_lkP yX7_number 19 7 2 := ⟨RX7, TX7, 4, rfl, by decide, rfl, Or.inl ⟨rfl, Or.inl (hb_w 210 (by decide +kernel) (by decide +kernel))⟩⟩
