theorem dX9_isGroup_0 : decode cX9_isGroup 0 = .ok (.aload_n 0, 1) := by decide +kernel
theorem dX9_isGroup_1 : decode cX9_isGroup 1 = .ok (.iload_n 1, 1) := by decide +kernel
theorem dX9_isGroup_2 : decode cX9_isGroup 2 = .ok (.invokevirtual 86, 3) := by decide +kernel
theorem dX9_isGroup_5 : decode cX9_isGroup 5 = .ok (.ifCond .ne 15, 3) := by decide +kernel
theorem dX9_isGroup_8 : decode cX9_isGroup 8 = .ok (.iload_n 1, 1) := by decide +kernel
theorem dX9_isGroup_9 : decode cX9_isGroup 9 = .ok (.bipush 10, 2) := by decide +kernel
theorem dX9_isGroup_11 : decode cX9_isGroup 11 = .ok (.if_icmp .eq 9, 3) := by decide +kernel
theorem dX9_isGroup_14 : decode cX9_isGroup 14 = .ok (.iload_n 1, 1) := by decide +kernel
theorem dX9_isGroup_15 : decode cX9_isGroup 15 = .ok (.bipush 11, 2) := by decide +kernel
theorem dX9_isGroup_17 : decode cX9_isGroup 17 = .ok (.if_icmp .ne 7, 3) := by decide +kernel
theorem dX9_isGroup_20 : decode cX9_isGroup 20 = .ok (.iconst 1, 1) := by decide +kernel
theorem dX9_isGroup_21 : decode cX9_isGroup 21 = .ok (.goto 4, 3) := by decide +kernel
theorem dX9_isGroup_24 : decode cX9_isGroup 24 = .ok (.iconst 0, 1) := by decide +kernel
theorem dX9_isGroup_25 : decode cX9_isGroup 25 = .ok (.ireturn, 1) := by decide +kernel
theorem dX9_groupSet_0 : decode cX9_groupSet 0 = .ok (.lconst 0, 1) := by decide +kernel
theorem dX9_groupSet_1 : decode cX9_groupSet 1 = .ok (.lstore_n 3, 1) := by decide +kernel
theorem dX9_groupSet_2 : decode cX9_groupSet 2 = .ok (.iconst 0, 1) := by decide +kernel
theorem dX9_groupSet_3 : decode cX9_groupSet 3 = .ok (.istore 5, 2) := by decide +kernel
theorem dX9_groupSet_5 : decode cX9_groupSet 5 = .ok (.iload 5, 2) := by decide +kernel
theorem dX9_groupSet_7 : decode cX9_groupSet 7 = .ok (.bipush 40, 2) := by decide +kernel
theorem dX9_groupSet_9 : decode cX9_groupSet 9 = .ok (.if_icmp .ge 88, 3) := by decide +kernel
theorem dX9_groupSet_12 : decode cX9_groupSet 12 = .ok (.aload_n 0, 1) := by decide +kernel
theorem dX9_groupSet_13 : decode cX9_groupSet 13 = .ok (.iload 5, 2) := by decide +kernel
theorem dX9_groupSet_15 : decode cX9_groupSet 15 = .ok (.invokevirtual 106, 3) := by decide +kernel
theorem dX9_groupSet_18 : decode cX9_groupSet 18 = .ok (.ifCond .eq 73, 3) := by decide +kernel
theorem dX9_groupSet_21 : decode cX9_groupSet 21 = .ok (.aload_n 0, 1) := by decide +kernel
theorem dX9_groupSet_22 : decode cX9_groupSet 22 = .ok (.getfield 7, 3) := by decide +kernel
theorem dX9_groupSet_25 : decode cX9_groupSet 25 = .ok (.iload 5, 2) := by decide +kernel
theorem dX9_groupSet_27 : decode cX9_groupSet 27 = .ok (.invokestatic 103, 3) := by decide +kernel
theorem dX9_groupSet_30 : decode cX9_groupSet 30 = .ok (.iconst 1, 1) := by decide +kernel
theorem dX9_groupSet_31 : decode cX9_groupSet 31 = .ok (.iadd, 1) := by decide +kernel
theorem dX9_groupSet_32 : decode cX9_groupSet 32 = .ok (.iaload, 1) := by decide +kernel
theorem dX9_groupSet_33 : decode cX9_groupSet 33 = .ok (.istore 6, 2) := by decide +kernel
theorem dX9_groupSet_35 : decode cX9_groupSet 35 = .ok (.iload 6, 2) := by decide +kernel
theorem dX9_groupSet_37 : decode cX9_groupSet 37 = .ok (.iload_n 1, 1) := by decide +kernel
theorem dX9_groupSet_38 : decode cX9_groupSet 38 = .ok (.if_icmp .eq 30, 3) := by decide +kernel
theorem dX9_groupSet_41 : decode cX9_groupSet 41 = .ok (.iload_n 2, 1) := by decide +kernel
theorem dX9_groupSet_42 : decode cX9_groupSet 42 = .ok (.ifCond .eq 30, 3) := by decide +kernel
theorem dX9_groupSet_45 : decode cX9_groupSet 45 = .ok (.iload_n 1, 1) := by decide +kernel
theorem dX9_groupSet_46 : decode cX9_groupSet 46 = .ok (.bipush 10, 2) := by decide +kernel
theorem dX9_groupSet_48 : decode cX9_groupSet 48 = .ok (.if_icmp .ge 24, 3) := by decide +kernel
theorem dX9_groupSet_51 : decode cX9_groupSet 51 = .ok (.iload 6, 2) := by decide +kernel
theorem dX9_groupSet_53 : decode cX9_groupSet 53 = .ok (.bipush 10, 2) := by decide +kernel
theorem dX9_groupSet_55 : decode cX9_groupSet 55 = .ok (.if_icmp .ge 17, 3) := by decide +kernel
theorem dX9_groupSet_58 : decode cX9_groupSet 58 = .ok (.aload_n 0, 1) := by decide +kernel
theorem dX9_groupSet_59 : decode cX9_groupSet 59 = .ok (.iload 6, 2) := by decide +kernel
theorem dX9_groupSet_61 : decode cX9_groupSet 61 = .ok (.iload_n 1, 1) := by decide +kernel
theorem dX9_groupSet_62 : decode cX9_groupSet 62 = .ok (.invokevirtual 99, 3) := by decide +kernel
theorem dX9_groupSet_65 : decode cX9_groupSet 65 = .ok (.ifCond .eq 7, 3) := by decide +kernel
theorem dX9_groupSet_68 : decode cX9_groupSet 68 = .ok (.iconst 1, 1) := by decide +kernel
theorem dX9_groupSet_69 : decode cX9_groupSet 69 = .ok (.goto 4, 3) := by decide +kernel
theorem dX9_groupSet_72 : decode cX9_groupSet 72 = .ok (.iconst 0, 1) := by decide +kernel
theorem dX9_groupSet_73 : decode cX9_groupSet 73 = .ok (.istore 7, 2) := by decide +kernel
theorem dX9_groupSet_75 : decode cX9_groupSet 75 = .ok (.lload_n 3, 1) := by decide +kernel
theorem dX9_groupSet_76 : decode cX9_groupSet 76 = .ok (.iload 7, 2) := by decide +kernel
theorem dX9_groupSet_78 : decode cX9_groupSet 78 = .ok (.ifCond .eq 10, 3) := by decide +kernel
theorem dX9_groupSet_81 : decode cX9_groupSet 81 = .ok (.lconst 1, 1) := by decide +kernel
theorem dX9_groupSet_82 : decode cX9_groupSet 82 = .ok (.iload 5, 2) := by decide +kernel
theorem dX9_groupSet_84 : decode cX9_groupSet 84 = .ok (.lshl, 1) := by decide +kernel
theorem dX9_groupSet_85 : decode cX9_groupSet 85 = .ok (.goto 4, 3) := by decide +kernel
theorem dX9_groupSet_88 : decode cX9_groupSet 88 = .ok (.lconst 0, 1) := by decide +kernel
theorem dX9_groupSet_89 : decode cX9_groupSet 89 = .ok (.lor, 1) := by decide +kernel
theorem dX9_groupSet_90 : decode cX9_groupSet 90 = .ok (.lstore_n 3, 1) := by decide +kernel
theorem dX9_groupSet_91 : decode cX9_groupSet 91 = .ok (.iinc 5 1, 3) := by decide +kernel
theorem dX9_groupSet_94 : decode cX9_groupSet 94 = .ok (.goto (-89), 3) := by decide +kernel
theorem dX9_groupSet_97 : decode cX9_groupSet 97 = .ok (.lload_n 3, 1) := by decide +kernel
theorem dX9_groupSet_98 : decode cX9_groupSet 98 = .ok (.lreturn, 1) := by decide +kernel
theorem dX9_group_0 : decode cX9_group 0 = .ok (.aload_n 0, 1) := by decide +kernel
theorem dX9_group_1 : decode cX9_group 1 = .ok (.aload_n 0, 1) := by decide +kernel
theorem dX9_group_2 : decode cX9_group 2 = .ok (.iload_n 1, 1) := by decide +kernel
theorem dX9_group_3 : decode cX9_group 3 = .ok (.invokevirtual 221, 3) := by decide +kernel
theorem dX9_group_6 : decode cX9_group 6 = .ok (.ifCond .ne 7, 3) := by decide +kernel
theorem dX9_group_9 : decode cX9_group 9 = .ok (.iconst 1, 1) := by decide +kernel
theorem dX9_group_10 : decode cX9_group 10 = .ok (.goto 17, 3) := by decide +kernel
theorem dX9_group_13 : decode cX9_group 13 = .ok (.iload_n 2, 1) := by decide +kernel
theorem dX9_group_14 : decode cX9_group 14 = .ok (.iconst 0, 1) := by decide +kernel
theorem dX9_group_15 : decode cX9_group 15 = .ok (.iconst 3, 1) := by decide +kernel
theorem dX9_group_16 : decode cX9_group 16 = .ok (.invokestatic 78, 3) := by decide +kernel
theorem dX9_group_19 : decode cX9_group 19 = .ok (.ifCond .ne 7, 3) := by decide +kernel
theorem dX9_group_22 : decode cX9_group 22 = .ok (.iconst 2, 1) := by decide +kernel
theorem dX9_group_23 : decode cX9_group 23 = .ok (.goto 4, 3) := by decide +kernel
theorem dX9_group_26 : decode cX9_group 26 = .ok (.iconst 0, 1) := by decide +kernel
theorem dX9_group_27 : decode cX9_group 27 = .ok (.invokevirtual 74, 3) := by decide +kernel
theorem dX9_group_30 : decode cX9_group 30 = .ok (.ifCond .eq 5, 3) := by decide +kernel
theorem dX9_group_33 : decode cX9_group 33 = .ok (.iconst 0, 1) := by decide +kernel
theorem dX9_group_34 : decode cX9_group 34 = .ok (.ireturn, 1) := by decide +kernel
theorem dX9_group_35 : decode cX9_group 35 = .ok (.aload_n 0, 1) := by decide +kernel
theorem dX9_group_36 : decode cX9_group 36 = .ok (.iload_n 1, 1) := by decide +kernel
theorem dX9_group_37 : decode cX9_group 37 = .ok (.iload_n 3, 1) := by decide +kernel
theorem dX9_group_38 : decode cX9_group 38 = .ok (.invokevirtual 224, 3) := by decide +kernel
theorem dX9_group_41 : decode cX9_group 41 = .ok (.lstore 4, 2) := by decide +kernel
theorem dX9_group_43 : decode cX9_group 43 = .ok (.aload_n 0, 1) := by decide +kernel
theorem dX9_group_44 : decode cX9_group 44 = .ok (.lconst 0, 1) := by decide +kernel
theorem dX9_group_45 : decode cX9_group 45 = .ok (.iconst (-1), 1) := by decide +kernel
theorem dX9_group_46 : decode cX9_group 46 = .ok (.iconst (-1), 1) := by decide +kernel
theorem dX9_group_47 : decode cX9_group 47 = .ok (.iconst (-1), 1) := by decide +kernel
theorem dX9_group_48 : decode cX9_group 48 = .ok (.invokevirtual 138, 3) := by decide +kernel
theorem dX9_group_51 : decode cX9_group 51 = .ok (.lstore 6, 2) := by decide +kernel
theorem dX9_group_53 : decode cX9_group 53 = .ok (.iload_n 2, 1) := by decide +kernel
theorem dX9_group_54 : decode cX9_group 54 = .ok (.tableswitch 49 0 2 #[26, 32, 41], 26) := by decide +kernel
theorem dX9_group_80 : decode cX9_group 80 = .ok (.lload 4, 2) := by decide +kernel
theorem dX9_group_82 : decode cX9_group 82 = .ok (.invokestatic 211, 3) := by decide +kernel
theorem dX9_group_85 : decode cX9_group 85 = .ok (.ireturn, 1) := by decide +kernel
theorem dX9_group_86 : decode cX9_group 86 = .ok (.lload 4, 2) := by decide +kernel
theorem dX9_group_88 : decode cX9_group 88 = .ok (.lload 6, 2) := by decide +kernel
theorem dX9_group_90 : decode cX9_group 90 = .ok (.land, 1) := by decide +kernel
theorem dX9_group_91 : decode cX9_group 91 = .ok (.invokestatic 211, 3) := by decide +kernel
theorem dX9_group_94 : decode cX9_group 94 = .ok (.ireturn, 1) := by decide +kernel
theorem dX9_group_95 : decode cX9_group 95 = .ok (.aload_n 0, 1) := by decide +kernel
theorem dX9_group_96 : decode cX9_group 96 = .ok (.lload 4, 2) := by decide +kernel
theorem dX9_group_98 : decode cX9_group 98 = .ok (.invokevirtual 204, 3) := by decide +kernel
theorem dX9_group_101 : decode cX9_group 101 = .ok (.l2i, 1) := by decide +kernel
theorem dX9_group_102 : decode cX9_group 102 = .ok (.ireturn, 1) := by decide +kernel
theorem dX9_group_103 : decode cX9_group 103 = .ok (.aload_n 0, 1) := by decide +kernel
theorem dX9_group_104 : decode cX9_group 104 = .ok (.lload 6, 2) := by decide +kernel
theorem dX9_group_106 : decode cX9_group 106 = .ok (.aload_n 0, 1) := by decide +kernel
theorem dX9_group_107 : decode cX9_group 107 = .ok (.lload 4, 2) := by decide +kernel
theorem dX9_group_109 : decode cX9_group 109 = .ok (.iconst (-1), 1) := by decide +kernel
theorem dX9_group_110 : decode cX9_group 110 = .ok (.iconst (-1), 1) := by decide +kernel
theorem dX9_group_111 : decode cX9_group 111 = .ok (.iconst (-1), 1) := by decide +kernel
theorem dX9_group_112 : decode cX9_group 112 = .ok (.invokevirtual 138, 3) := by decide +kernel
theorem dX9_group_115 : decode cX9_group 115 = .ok (.ldc2_w 172, 3) := by decide +kernel
theorem dX9_group_118 : decode cX9_group 118 = .ok (.lxor, 1) := by decide +kernel
theorem dX9_group_119 : decode cX9_group 119 = .ok (.land, 1) := by decide +kernel
theorem dX9_group_120 : decode cX9_group 120 = .ok (.invokevirtual 204, 3) := by decide +kernel
theorem dX9_group_123 : decode cX9_group 123 = .ok (.l2i, 1) := by decide +kernel
theorem dX9_group_124 : decode cX9_group 124 = .ok (.ireturn, 1) := by decide +kernel
theorem dJxe99ae_isNaN_b9ae7_0 : decode cJxe99ae_isNaN_b9ae7 0 = .ok (.dload_n 0, 1) := by decide +kernel
theorem dJxe99ae_isNaN_b9ae7_1 : decode cJxe99ae_isNaN_b9ae7 1 = .ok (.dload_n 0, 1) := by decide +kernel
theorem dJxe99ae_isNaN_b9ae7_2 : decode cJxe99ae_isNaN_b9ae7 2 = .ok (.dcmp .l, 1) := by decide +kernel
theorem dJxe99ae_isNaN_b9ae7_3 : decode cJxe99ae_isNaN_b9ae7 3 = .ok (.ifCond .eq 7, 3) := by decide +kernel
theorem dJxe99ae_isNaN_b9ae7_6 : decode cJxe99ae_isNaN_b9ae7 6 = .ok (.iconst 1, 1) := by decide +kernel
theorem dJxe99ae_isNaN_b9ae7_7 : decode cJxe99ae_isNaN_b9ae7 7 = .ok (.goto 4, 3) := by decide +kernel
theorem dJxe99ae_isNaN_b9ae7_10 : decode cJxe99ae_isNaN_b9ae7 10 = .ok (.iconst 0, 1) := by decide +kernel
theorem dJxe99ae_isNaN_b9ae7_11 : decode cJxe99ae_isNaN_b9ae7 11 = .ok (.ireturn, 1) := by decide +kernel
theorem dJxe99ae_doubleToLongBits_ccdee_0 : decode cJxe99ae_doubleToLongBits_ccdee 0 = .ok (.dload_n 0, 1) := by decide +kernel
theorem dJxe99ae_doubleToLongBits_ccdee_1 : decode cJxe99ae_doubleToLongBits_ccdee 1 = .ok (.invokestatic 122, 3) := by decide +kernel
theorem dJxe99ae_doubleToLongBits_ccdee_4 : decode cJxe99ae_doubleToLongBits_ccdee 4 = .ok (.ifCond .ne 8, 3) := by decide +kernel
theorem dJxe99ae_doubleToLongBits_ccdee_7 : decode cJxe99ae_doubleToLongBits_ccdee 7 = .ok (.dload_n 0, 1) := by decide +kernel
theorem dJxe99ae_doubleToLongBits_ccdee_8 : decode cJxe99ae_doubleToLongBits_ccdee 8 = .ok (.invokestatic 134, 3) := by decide +kernel
theorem dJxe99ae_doubleToLongBits_ccdee_11 : decode cJxe99ae_doubleToLongBits_ccdee 11 = .ok (.lreturn, 1) := by decide +kernel
theorem dJxe99ae_doubleToLongBits_ccdee_12 : decode cJxe99ae_doubleToLongBits_ccdee 12 = .ok (.ldc2_w 137, 3) := by decide +kernel
theorem dJxe99ae_doubleToLongBits_ccdee_15 : decode cJxe99ae_doubleToLongBits_ccdee 15 = .ok (.lreturn, 1) := by decide +kernel
theorem dX9_meanRetainedBits_0 : decode cX9_meanRetainedBits 0 = .ok (.aload_n 0, 1) := by decide +kernel
theorem dX9_meanRetainedBits_1 : decode cX9_meanRetainedBits 1 = .ok (.aload_n 0, 1) := by decide +kernel
theorem dX9_meanRetainedBits_2 : decode cX9_meanRetainedBits 2 = .ok (.aload_n 0, 1) := by decide +kernel
theorem dX9_meanRetainedBits_3 : decode cX9_meanRetainedBits 3 = .ok (.iload_n 1, 1) := by decide +kernel
theorem dX9_meanRetainedBits_4 : decode cX9_meanRetainedBits 4 = .ok (.invokevirtual 221, 3) := by decide +kernel
theorem dX9_meanRetainedBits_7 : decode cX9_meanRetainedBits 7 = .ok (.invokevirtual 187, 3) := by decide +kernel
theorem dX9_meanRetainedBits_10 : decode cX9_meanRetainedBits 10 = .ok (.invokevirtual 74, 3) := by decide +kernel
theorem dX9_meanRetainedBits_13 : decode cX9_meanRetainedBits 13 = .ok (.ifCond .eq 5, 3) := by decide +kernel
theorem dX9_meanRetainedBits_16 : decode cX9_meanRetainedBits 16 = .ok (.lconst 0, 1) := by decide +kernel
theorem dX9_meanRetainedBits_17 : decode cX9_meanRetainedBits 17 = .ok (.lreturn, 1) := by decide +kernel
theorem dX9_meanRetainedBits_18 : decode cX9_meanRetainedBits 18 = .ok (.aload_n 0, 1) := by decide +kernel
theorem dX9_meanRetainedBits_19 : decode cX9_meanRetainedBits 19 = .ok (.invokevirtual 198, 3) := by decide +kernel
theorem dX9_meanRetainedBits_22 : decode cX9_meanRetainedBits 22 = .ok (.aload_n 0, 1) := by decide +kernel
theorem dX9_meanRetainedBits_23 : decode cX9_meanRetainedBits 23 = .ok (.iload_n 1, 1) := by decide +kernel
theorem dX9_meanRetainedBits_24 : decode cX9_meanRetainedBits 24 = .ok (.iconst 0, 1) := by decide +kernel
theorem dX9_meanRetainedBits_25 : decode cX9_meanRetainedBits 25 = .ok (.invokevirtual 224, 3) := by decide +kernel
theorem dX9_meanRetainedBits_28 : decode cX9_meanRetainedBits 28 = .ok (.aload_n 0, 1) := by decide +kernel
theorem dX9_meanRetainedBits_29 : decode cX9_meanRetainedBits 29 = .ok (.getfield 178, 3) := by decide +kernel
theorem dX9_meanRetainedBits_32 : decode cX9_meanRetainedBits 32 = .ok (.land, 1) := by decide +kernel
theorem dX9_meanRetainedBits_33 : decode cX9_meanRetainedBits 33 = .ok (.lstore_n 2, 1) := by decide +kernel
theorem dX9_meanRetainedBits_34 : decode cX9_meanRetainedBits 34 = .ok (.lconst 0, 1) := by decide +kernel
theorem dX9_meanRetainedBits_35 : decode cX9_meanRetainedBits 35 = .ok (.lstore 4, 2) := by decide +kernel
theorem dX9_meanRetainedBits_37 : decode cX9_meanRetainedBits 37 = .ok (.iconst 0, 1) := by decide +kernel
theorem dX9_meanRetainedBits_38 : decode cX9_meanRetainedBits 38 = .ok (.istore 6, 2) := by decide +kernel
theorem dX9_meanRetainedBits_40 : decode cX9_meanRetainedBits 40 = .ok (.iload 6, 2) := by decide +kernel
theorem dX9_meanRetainedBits_42 : decode cX9_meanRetainedBits 42 = .ok (.bipush 40, 2) := by decide +kernel
theorem dX9_meanRetainedBits_44 : decode cX9_meanRetainedBits 44 = .ok (.if_icmp .ge 36, 3) := by decide +kernel
theorem dX9_meanRetainedBits_47 : decode cX9_meanRetainedBits 47 = .ok (.lload 4, 2) := by decide +kernel
theorem dX9_meanRetainedBits_49 : decode cX9_meanRetainedBits 49 = .ok (.lload_n 2, 1) := by decide +kernel
theorem dX9_meanRetainedBits_50 : decode cX9_meanRetainedBits 50 = .ok (.iload 6, 2) := by decide +kernel
theorem dX9_meanRetainedBits_52 : decode cX9_meanRetainedBits 52 = .ok (.lshr, 1) := by decide +kernel
theorem dX9_meanRetainedBits_53 : decode cX9_meanRetainedBits 53 = .ok (.lconst 1, 1) := by decide +kernel
theorem dX9_meanRetainedBits_54 : decode cX9_meanRetainedBits 54 = .ok (.land, 1) := by decide +kernel
theorem dX9_meanRetainedBits_55 : decode cX9_meanRetainedBits 55 = .ok (.lconst 1, 1) := by decide +kernel
theorem dX9_meanRetainedBits_56 : decode cX9_meanRetainedBits 56 = .ok (.lcmp, 1) := by decide +kernel
theorem dX9_meanRetainedBits_57 : decode cX9_meanRetainedBits 57 = .ok (.ifCond .ne 13, 3) := by decide +kernel
theorem dX9_meanRetainedBits_60 : decode cX9_meanRetainedBits 60 = .ok (.aload_n 0, 1) := by decide +kernel
theorem dX9_meanRetainedBits_61 : decode cX9_meanRetainedBits 61 = .ok (.iload 6, 2) := by decide +kernel
theorem dX9_meanRetainedBits_63 : decode cX9_meanRetainedBits 63 = .ok (.invokevirtual 208, 3) := by decide +kernel
theorem dX9_meanRetainedBits_66 : decode cX9_meanRetainedBits 66 = .ok (.i2l, 1) := by decide +kernel
theorem dX9_meanRetainedBits_67 : decode cX9_meanRetainedBits 67 = .ok (.goto 4, 3) := by decide +kernel
theorem dX9_meanRetainedBits_70 : decode cX9_meanRetainedBits 70 = .ok (.lconst 0, 1) := by decide +kernel
theorem dX9_meanRetainedBits_71 : decode cX9_meanRetainedBits 71 = .ok (.ladd, 1) := by decide +kernel
theorem dX9_meanRetainedBits_72 : decode cX9_meanRetainedBits 72 = .ok (.lstore 4, 2) := by decide +kernel
theorem dX9_meanRetainedBits_74 : decode cX9_meanRetainedBits 74 = .ok (.iinc 6 1, 3) := by decide +kernel
theorem dX9_meanRetainedBits_77 : decode cX9_meanRetainedBits 77 = .ok (.goto (-37), 3) := by decide +kernel
theorem dX9_meanRetainedBits_80 : decode cX9_meanRetainedBits 80 = .ok (.lload_n 2, 1) := by decide +kernel
theorem dX9_meanRetainedBits_81 : decode cX9_meanRetainedBits 81 = .ok (.lconst 0, 1) := by decide +kernel
theorem dX9_meanRetainedBits_82 : decode cX9_meanRetainedBits 82 = .ok (.lcmp, 1) := by decide +kernel
theorem dX9_meanRetainedBits_83 : decode cX9_meanRetainedBits 83 = .ok (.ifCond .ne 7, 3) := by decide +kernel
theorem dX9_meanRetainedBits_86 : decode cX9_meanRetainedBits 86 = .ok (.dconst 0, 1) := by decide +kernel
theorem dX9_meanRetainedBits_87 : decode cX9_meanRetainedBits 87 = .ok (.goto 12, 3) := by decide +kernel
theorem dX9_meanRetainedBits_90 : decode cX9_meanRetainedBits 90 = .ok (.lload 4, 2) := by decide +kernel
theorem dX9_meanRetainedBits_92 : decode cX9_meanRetainedBits 92 = .ok (.l2d, 1) := by decide +kernel
theorem dX9_meanRetainedBits_93 : decode cX9_meanRetainedBits 93 = .ok (.lload_n 2, 1) := by decide +kernel
theorem dX9_meanRetainedBits_94 : decode cX9_meanRetainedBits 94 = .ok (.invokestatic 211, 3) := by decide +kernel
theorem dX9_meanRetainedBits_97 : decode cX9_meanRetainedBits 97 = .ok (.i2d, 1) := by decide +kernel
theorem dX9_meanRetainedBits_98 : decode cX9_meanRetainedBits 98 = .ok (.ddiv, 1) := by decide +kernel
theorem dX9_meanRetainedBits_99 : decode cX9_meanRetainedBits 99 = .ok (.invokestatic 228, 3) := by decide +kernel
theorem dX9_meanRetainedBits_102 : decode cX9_meanRetainedBits 102 = .ok (.lreturn, 1) := by decide +kernel
theorem dJxf58ca_isNaN_12338_0 : decode cJxf58ca_isNaN_12338 0 = .ok (.fload_n 0, 1) := by decide +kernel
theorem dJxf58ca_isNaN_12338_1 : decode cJxf58ca_isNaN_12338 1 = .ok (.fload_n 0, 1) := by decide +kernel
theorem dJxf58ca_isNaN_12338_2 : decode cJxf58ca_isNaN_12338 2 = .ok (.fcmp .l, 1) := by decide +kernel
theorem dJxf58ca_isNaN_12338_3 : decode cJxf58ca_isNaN_12338 3 = .ok (.ifCond .eq 7, 3) := by decide +kernel
theorem dJxf58ca_isNaN_12338_6 : decode cJxf58ca_isNaN_12338 6 = .ok (.iconst 1, 1) := by decide +kernel
theorem dJxf58ca_isNaN_12338_7 : decode cJxf58ca_isNaN_12338 7 = .ok (.goto 4, 3) := by decide +kernel
theorem dJxf58ca_isNaN_12338_10 : decode cJxf58ca_isNaN_12338 10 = .ok (.iconst 0, 1) := by decide +kernel
theorem dJxf58ca_isNaN_12338_11 : decode cJxf58ca_isNaN_12338 11 = .ok (.ireturn, 1) := by decide +kernel
theorem dJxf58ca_floatToIntBits_5c35a_0 : decode cJxf58ca_floatToIntBits_5c35a 0 = .ok (.fload_n 0, 1) := by decide +kernel
theorem dJxf58ca_floatToIntBits_5c35a_1 : decode cJxf58ca_floatToIntBits_5c35a 1 = .ok (.invokestatic 59, 3) := by decide +kernel
theorem dJxf58ca_floatToIntBits_5c35a_4 : decode cJxf58ca_floatToIntBits_5c35a 4 = .ok (.ifCond .ne 8, 3) := by decide +kernel
theorem dJxf58ca_floatToIntBits_5c35a_7 : decode cJxf58ca_floatToIntBits_5c35a 7 = .ok (.fload_n 0, 1) := by decide +kernel
theorem dJxf58ca_floatToIntBits_5c35a_8 : decode cJxf58ca_floatToIntBits_5c35a 8 = .ok (.invokestatic 74, 3) := by decide +kernel
theorem dJxf58ca_floatToIntBits_5c35a_11 : decode cJxf58ca_floatToIntBits_5c35a 11 = .ok (.ireturn, 1) := by decide +kernel
theorem dJxf58ca_floatToIntBits_5c35a_12 : decode cJxf58ca_floatToIntBits_5c35a 12 = .ok (.ldc 77, 2) := by decide +kernel
theorem dJxf58ca_floatToIntBits_5c35a_14 : decode cJxf58ca_floatToIntBits_5c35a 14 = .ok (.ireturn, 1) := by decide +kernel
theorem dX9_shareBits_0 : decode cX9_shareBits 0 = .ok (.aload_n 0, 1) := by decide +kernel
theorem dX9_shareBits_1 : decode cX9_shareBits 1 = .ok (.aload_n 0, 1) := by decide +kernel
theorem dX9_shareBits_2 : decode cX9_shareBits 2 = .ok (.aload_n 0, 1) := by decide +kernel
theorem dX9_shareBits_3 : decode cX9_shareBits 3 = .ok (.iload_n 1, 1) := by decide +kernel
theorem dX9_shareBits_4 : decode cX9_shareBits 4 = .ok (.invokevirtual 106, 3) := by decide +kernel
theorem dX9_shareBits_7 : decode cX9_shareBits 7 = .ok (.invokevirtual 187, 3) := by decide +kernel
theorem dX9_shareBits_10 : decode cX9_shareBits 10 = .ok (.invokevirtual 74, 3) := by decide +kernel
theorem dX9_shareBits_13 : decode cX9_shareBits 13 = .ok (.ifCond .eq 5, 3) := by decide +kernel
theorem dX9_shareBits_16 : decode cX9_shareBits 16 = .ok (.iconst 0, 1) := by decide +kernel
theorem dX9_shareBits_17 : decode cX9_shareBits 17 = .ok (.ireturn, 1) := by decide +kernel
theorem dX9_shareBits_18 : decode cX9_shareBits 18 = .ok (.aload_n 0, 1) := by decide +kernel
theorem dX9_shareBits_19 : decode cX9_shareBits 19 = .ok (.invokevirtual 198, 3) := by decide +kernel
theorem dX9_shareBits_22 : decode cX9_shareBits 22 = .ok (.aload_n 0, 1) := by decide +kernel
theorem dX9_shareBits_23 : decode cX9_shareBits 23 = .ok (.iload_n 1, 1) := by decide +kernel
theorem dX9_shareBits_24 : decode cX9_shareBits 24 = .ok (.invokevirtual 181, 3) := by decide +kernel
theorem dX9_shareBits_27 : decode cX9_shareBits 27 = .ok (.ifCond .eq 22, 3) := by decide +kernel
theorem dX9_shareBits_30 : decode cX9_shareBits 30 = .ok (.aload_n 0, 1) := by decide +kernel
theorem dX9_shareBits_31 : decode cX9_shareBits 31 = .ok (.iload_n 1, 1) := by decide +kernel
theorem dX9_shareBits_32 : decode cX9_shareBits 32 = .ok (.invokevirtual 208, 3) := by decide +kernel
theorem dX9_shareBits_35 : decode cX9_shareBits 35 = .ok (.i2f, 1) := by decide +kernel
theorem dX9_shareBits_36 : decode cX9_shareBits 36 = .ok (.aload_n 0, 1) := by decide +kernel
theorem dX9_shareBits_37 : decode cX9_shareBits 37 = .ok (.aload_n 0, 1) := by decide +kernel
theorem dX9_shareBits_38 : decode cX9_shareBits 38 = .ok (.getfield 178, 3) := by decide +kernel
theorem dX9_shareBits_41 : decode cX9_shareBits 41 = .ok (.invokevirtual 204, 3) := by decide +kernel
theorem dX9_shareBits_44 : decode cX9_shareBits 44 = .ok (.l2f, 1) := by decide +kernel
theorem dX9_shareBits_45 : decode cX9_shareBits 45 = .ok (.fdiv, 1) := by decide +kernel
theorem dX9_shareBits_46 : decode cX9_shareBits 46 = .ok (.goto 4, 3) := by decide +kernel
theorem dX9_shareBits_49 : decode cX9_shareBits 49 = .ok (.fconst 0, 1) := by decide +kernel
theorem dX9_shareBits_50 : decode cX9_shareBits 50 = .ok (.invokestatic 234, 3) := by decide +kernel
theorem dX9_shareBits_53 : decode cX9_shareBits 53 = .ok (.ireturn, 1) := by decide +kernel
theorem dX9_isHeavy_0 : decode cX9_isHeavy 0 = .ok (.aload_n 0, 1) := by decide +kernel
theorem dX9_isHeavy_1 : decode cX9_isHeavy 1 = .ok (.iload_n 1, 1) := by decide +kernel
theorem dX9_isHeavy_2 : decode cX9_isHeavy 2 = .ok (.invokevirtual 181, 3) := by decide +kernel
theorem dX9_isHeavy_5 : decode cX9_isHeavy 5 = .ok (.ifCond .eq 32, 3) := by decide +kernel
theorem dX9_isHeavy_8 : decode cX9_isHeavy 8 = .ok (.aload_n 0, 1) := by decide +kernel
theorem dX9_isHeavy_9 : decode cX9_isHeavy 9 = .ok (.iload_n 1, 1) := by decide +kernel
theorem dX9_isHeavy_10 : decode cX9_isHeavy 10 = .ok (.invokevirtual 208, 3) := by decide +kernel
theorem dX9_isHeavy_13 : decode cX9_isHeavy 13 = .ok (.i2l, 1) := by decide +kernel
theorem dX9_isHeavy_14 : decode cX9_isHeavy 14 = .ok (.ldc2_w 240, 3) := by decide +kernel
theorem dX9_isHeavy_17 : decode cX9_isHeavy 17 = .ok (.lmul, 1) := by decide +kernel
theorem dX9_isHeavy_18 : decode cX9_isHeavy 18 = .ok (.iload_n 2, 1) := by decide +kernel
theorem dX9_isHeavy_19 : decode cX9_isHeavy 19 = .ok (.i2l, 1) := by decide +kernel
theorem dX9_isHeavy_20 : decode cX9_isHeavy 20 = .ok (.aload_n 0, 1) := by decide +kernel
theorem dX9_isHeavy_21 : decode cX9_isHeavy 21 = .ok (.aload_n 0, 1) := by decide +kernel
theorem dX9_isHeavy_22 : decode cX9_isHeavy 22 = .ok (.getfield 178, 3) := by decide +kernel
theorem dX9_isHeavy_25 : decode cX9_isHeavy 25 = .ok (.invokevirtual 204, 3) := by decide +kernel
theorem dX9_isHeavy_28 : decode cX9_isHeavy 28 = .ok (.lmul, 1) := by decide +kernel
theorem dX9_isHeavy_29 : decode cX9_isHeavy 29 = .ok (.lcmp, 1) := by decide +kernel
theorem dX9_isHeavy_30 : decode cX9_isHeavy 30 = .ok (.ifCond .lt 7, 3) := by decide +kernel
theorem dX9_isHeavy_33 : decode cX9_isHeavy 33 = .ok (.iconst 1, 1) := by decide +kernel
theorem dX9_isHeavy_34 : decode cX9_isHeavy 34 = .ok (.goto 4, 3) := by decide +kernel
theorem dX9_isHeavy_37 : decode cX9_isHeavy 37 = .ok (.iconst 0, 1) := by decide +kernel
theorem dX9_isHeavy_38 : decode cX9_isHeavy 38 = .ok (.ireturn, 1) := by decide +kernel
theorem dX9_isSuspect_0 : decode cX9_isSuspect 0 = .ok (.aload_n 0, 1) := by decide +kernel
theorem dX9_isSuspect_1 : decode cX9_isSuspect 1 = .ok (.iload_n 1, 1) := by decide +kernel
theorem dX9_isSuspect_2 : decode cX9_isSuspect 2 = .ok (.iload_n 2, 1) := by decide +kernel
theorem dX9_isSuspect_3 : decode cX9_isSuspect 3 = .ok (.invokevirtual 242, 3) := by decide +kernel
theorem dX9_isSuspect_6 : decode cX9_isSuspect 6 = .ok (.istore_n 3, 1) := by decide +kernel
theorem dX9_isSuspect_7 : decode cX9_isSuspect 7 = .ok (.iconst 0, 1) := by decide +kernel
theorem dX9_isSuspect_8 : decode cX9_isSuspect 8 = .ok (.istore 4, 2) := by decide +kernel
theorem dX9_isSuspect_10 : decode cX9_isSuspect 10 = .ok (.iload 4, 2) := by decide +kernel
theorem dX9_isSuspect_12 : decode cX9_isSuspect 12 = .ok (.bipush 40, 2) := by decide +kernel
theorem dX9_isSuspect_14 : decode cX9_isSuspect 14 = .ok (.if_icmp .ge 48, 3) := by decide +kernel
theorem dX9_isSuspect_17 : decode cX9_isSuspect 17 = .ok (.iload_n 3, 1) := by decide +kernel
theorem dX9_isSuspect_18 : decode cX9_isSuspect 18 = .ok (.ifCond .eq 44, 3) := by decide +kernel
theorem dX9_isSuspect_21 : decode cX9_isSuspect 21 = .ok (.aload_n 0, 1) := by decide +kernel
theorem dX9_isSuspect_22 : decode cX9_isSuspect 22 = .ok (.iload 4, 2) := by decide +kernel
theorem dX9_isSuspect_24 : decode cX9_isSuspect 24 = .ok (.invokevirtual 181, 3) := by decide +kernel
theorem dX9_isSuspect_27 : decode cX9_isSuspect 27 = .ok (.ifCond .eq 23, 3) := by decide +kernel
theorem dX9_isSuspect_30 : decode cX9_isSuspect 30 = .ok (.aload_n 0, 1) := by decide +kernel
theorem dX9_isSuspect_31 : decode cX9_isSuspect 31 = .ok (.iload 4, 2) := by decide +kernel
theorem dX9_isSuspect_33 : decode cX9_isSuspect 33 = .ok (.invokevirtual 201, 3) := by decide +kernel
theorem dX9_isSuspect_36 : decode cX9_isSuspect 36 = .ok (.iload_n 1, 1) := by decide +kernel
theorem dX9_isSuspect_37 : decode cX9_isSuspect 37 = .ok (.if_icmp .ne 13, 3) := by decide +kernel
theorem dX9_isSuspect_40 : decode cX9_isSuspect 40 = .ok (.aload_n 0, 1) := by decide +kernel
theorem dX9_isSuspect_41 : decode cX9_isSuspect 41 = .ok (.iload 4, 2) := by decide +kernel
theorem dX9_isSuspect_43 : decode cX9_isSuspect 43 = .ok (.iload_n 2, 1) := by decide +kernel
theorem dX9_isSuspect_44 : decode cX9_isSuspect 44 = .ok (.invokevirtual 242, 3) := by decide +kernel
theorem dX9_isSuspect_47 : decode cX9_isSuspect 47 = .ok (.ifCond .ne 7, 3) := by decide +kernel
theorem dX9_isSuspect_50 : decode cX9_isSuspect 50 = .ok (.iconst 1, 1) := by decide +kernel
theorem dX9_isSuspect_51 : decode cX9_isSuspect 51 = .ok (.goto 4, 3) := by decide +kernel
theorem dX9_isSuspect_54 : decode cX9_isSuspect 54 = .ok (.iconst 0, 1) := by decide +kernel
theorem dX9_isSuspect_55 : decode cX9_isSuspect 55 = .ok (.istore_n 3, 1) := by decide +kernel
theorem dX9_isSuspect_56 : decode cX9_isSuspect 56 = .ok (.iinc 4 1, 3) := by decide +kernel
theorem dX9_isSuspect_59 : decode cX9_isSuspect 59 = .ok (.goto (-49), 3) := by decide +kernel
theorem dX9_isSuspect_62 : decode cX9_isSuspect 62 = .ok (.iload_n 3, 1) := by decide +kernel
theorem dX9_isSuspect_63 : decode cX9_isSuspect 63 = .ok (.ireturn, 1) := by decide +kernel
theorem dX9_suspectAt_0 : decode cX9_suspectAt 0 = .ok (.aload_n 0, 1) := by decide +kernel
theorem dX9_suspectAt_1 : decode cX9_suspectAt 1 = .ok (.iload_n 1, 1) := by decide +kernel
theorem dX9_suspectAt_2 : decode cX9_suspectAt 2 = .ok (.iconst 1, 1) := by decide +kernel
theorem dX9_suspectAt_3 : decode cX9_suspectAt 3 = .ok (.bipush 100, 2) := by decide +kernel
theorem dX9_suspectAt_5 : decode cX9_suspectAt 5 = .ok (.invokestatic 78, 3) := by decide +kernel
theorem dX9_suspectAt_8 : decode cX9_suspectAt 8 = .ok (.ifCond .eq 7, 3) := by decide +kernel
theorem dX9_suspectAt_11 : decode cX9_suspectAt 11 = .ok (.iconst 0, 1) := by decide +kernel
theorem dX9_suspectAt_12 : decode cX9_suspectAt 12 = .ok (.goto 4, 3) := by decide +kernel
theorem dX9_suspectAt_15 : decode cX9_suspectAt 15 = .ok (.iconst 1, 1) := by decide +kernel
theorem dX9_suspectAt_16 : decode cX9_suspectAt 16 = .ok (.invokevirtual 74, 3) := by decide +kernel
theorem dX9_suspectAt_19 : decode cX9_suspectAt 19 = .ok (.ifCond .eq 5, 3) := by decide +kernel
theorem dX9_suspectAt_22 : decode cX9_suspectAt 22 = .ok (.iconst 0, 1) := by decide +kernel
theorem dX9_suspectAt_23 : decode cX9_suspectAt 23 = .ok (.ireturn, 1) := by decide +kernel
theorem dX9_suspectAt_24 : decode cX9_suspectAt 24 = .ok (.aload_n 0, 1) := by decide +kernel
theorem dX9_suspectAt_25 : decode cX9_suspectAt 25 = .ok (.invokevirtual 198, 3) := by decide +kernel
theorem dX9_suspectAt_28 : decode cX9_suspectAt 28 = .ok (.iconst 0, 1) := by decide +kernel
theorem dX9_suspectAt_29 : decode cX9_suspectAt 29 = .ok (.istore_n 3, 1) := by decide +kernel
theorem dX9_suspectAt_30 : decode cX9_suspectAt 30 = .ok (.iload_n 3, 1) := by decide +kernel
theorem dX9_suspectAt_31 : decode cX9_suspectAt 31 = .ok (.bipush 40, 2) := by decide +kernel
theorem dX9_suspectAt_33 : decode cX9_suspectAt 33 = .ok (.if_icmp .ge 117, 3) := by decide +kernel
theorem dX9_suspectAt_36 : decode cX9_suspectAt 36 = .ok (.aload_n 0, 1) := by decide +kernel
theorem dX9_suspectAt_37 : decode cX9_suspectAt 37 = .ok (.iload_n 3, 1) := by decide +kernel
theorem dX9_suspectAt_38 : decode cX9_suspectAt 38 = .ok (.iload_n 1, 1) := by decide +kernel
theorem dX9_suspectAt_39 : decode cX9_suspectAt 39 = .ok (.invokevirtual 245, 3) := by decide +kernel
theorem dX9_suspectAt_42 : decode cX9_suspectAt 42 = .ok (.ifCond .eq 102, 3) := by decide +kernel
theorem dX9_suspectAt_45 : decode cX9_suspectAt 45 = .ok (.iconst 0, 1) := by decide +kernel
theorem dX9_suspectAt_46 : decode cX9_suspectAt 46 = .ok (.istore 4, 2) := by decide +kernel
theorem dX9_suspectAt_48 : decode cX9_suspectAt 48 = .ok (.iconst 0, 1) := by decide +kernel
theorem dX9_suspectAt_49 : decode cX9_suspectAt 49 = .ok (.istore 5, 2) := by decide +kernel
theorem dX9_suspectAt_51 : decode cX9_suspectAt 51 = .ok (.iload 5, 2) := by decide +kernel
theorem dX9_suspectAt_53 : decode cX9_suspectAt 53 = .ok (.bipush 40, 2) := by decide +kernel
theorem dX9_suspectAt_55 : decode cX9_suspectAt 55 = .ok (.if_icmp .ge 81, 3) := by decide +kernel
theorem dX9_suspectAt_58 : decode cX9_suspectAt 58 = .ok (.aload_n 0, 1) := by decide +kernel
theorem dX9_suspectAt_59 : decode cX9_suspectAt 59 = .ok (.iload 5, 2) := by decide +kernel
theorem dX9_suspectAt_61 : decode cX9_suspectAt 61 = .ok (.invokevirtual 208, 3) := by decide +kernel
theorem dX9_suspectAt_64 : decode cX9_suspectAt 64 = .ok (.aload_n 0, 1) := by decide +kernel
theorem dX9_suspectAt_65 : decode cX9_suspectAt 65 = .ok (.iload_n 3, 1) := by decide +kernel
theorem dX9_suspectAt_66 : decode cX9_suspectAt 66 = .ok (.invokevirtual 208, 3) := by decide +kernel
theorem dX9_suspectAt_69 : decode cX9_suspectAt 69 = .ok (.if_icmp .gt 23, 3) := by decide +kernel
theorem dX9_suspectAt_72 : decode cX9_suspectAt 72 = .ok (.aload_n 0, 1) := by decide +kernel
theorem dX9_suspectAt_73 : decode cX9_suspectAt 73 = .ok (.iload 5, 2) := by decide +kernel
theorem dX9_suspectAt_75 : decode cX9_suspectAt 75 = .ok (.invokevirtual 208, 3) := by decide +kernel
theorem dX9_suspectAt_78 : decode cX9_suspectAt 78 = .ok (.aload_n 0, 1) := by decide +kernel
theorem dX9_suspectAt_79 : decode cX9_suspectAt 79 = .ok (.iload_n 3, 1) := by decide +kernel
theorem dX9_suspectAt_80 : decode cX9_suspectAt 80 = .ok (.invokevirtual 208, 3) := by decide +kernel
theorem dX9_suspectAt_83 : decode cX9_suspectAt 83 = .ok (.if_icmp .ne 13, 3) := by decide +kernel
theorem dX9_suspectAt_86 : decode cX9_suspectAt 86 = .ok (.iload 5, 2) := by decide +kernel
theorem dX9_suspectAt_88 : decode cX9_suspectAt 88 = .ok (.iload_n 3, 1) := by decide +kernel
theorem dX9_suspectAt_89 : decode cX9_suspectAt 89 = .ok (.if_icmp .ge 7, 3) := by decide +kernel
theorem dX9_suspectAt_92 : decode cX9_suspectAt 92 = .ok (.iconst 1, 1) := by decide +kernel
theorem dX9_suspectAt_93 : decode cX9_suspectAt 93 = .ok (.goto 4, 3) := by decide +kernel
theorem dX9_suspectAt_96 : decode cX9_suspectAt 96 = .ok (.iconst 0, 1) := by decide +kernel
theorem dX9_suspectAt_97 : decode cX9_suspectAt 97 = .ok (.istore 6, 2) := by decide +kernel
theorem dX9_suspectAt_99 : decode cX9_suspectAt 99 = .ok (.iload 4, 2) := by decide +kernel
theorem dX9_suspectAt_101 : decode cX9_suspectAt 101 = .ok (.iload 5, 2) := by decide +kernel
theorem dX9_suspectAt_103 : decode cX9_suspectAt 103 = .ok (.iload_n 3, 1) := by decide +kernel
theorem dX9_suspectAt_104 : decode cX9_suspectAt 104 = .ok (.if_icmp .eq 22, 3) := by decide +kernel
theorem dX9_suspectAt_107 : decode cX9_suspectAt 107 = .ok (.iload 6, 2) := by decide +kernel
theorem dX9_suspectAt_109 : decode cX9_suspectAt 109 = .ok (.ifCond .eq 17, 3) := by decide +kernel
theorem dX9_suspectAt_112 : decode cX9_suspectAt 112 = .ok (.aload_n 0, 1) := by decide +kernel
theorem dX9_suspectAt_113 : decode cX9_suspectAt 113 = .ok (.iload 5, 2) := by decide +kernel
theorem dX9_suspectAt_115 : decode cX9_suspectAt 115 = .ok (.iload_n 1, 1) := by decide +kernel
theorem dX9_suspectAt_116 : decode cX9_suspectAt 116 = .ok (.invokevirtual 245, 3) := by decide +kernel
theorem dX9_suspectAt_119 : decode cX9_suspectAt 119 = .ok (.ifCond .eq 7, 3) := by decide +kernel
theorem dX9_suspectAt_122 : decode cX9_suspectAt 122 = .ok (.iconst 1, 1) := by decide +kernel
theorem dX9_suspectAt_123 : decode cX9_suspectAt 123 = .ok (.goto 4, 3) := by decide +kernel
theorem dX9_suspectAt_126 : decode cX9_suspectAt 126 = .ok (.iconst 0, 1) := by decide +kernel
theorem dX9_suspectAt_127 : decode cX9_suspectAt 127 = .ok (.iadd, 1) := by decide +kernel
theorem dX9_suspectAt_128 : decode cX9_suspectAt 128 = .ok (.istore 4, 2) := by decide +kernel
theorem dX9_suspectAt_130 : decode cX9_suspectAt 130 = .ok (.iinc 5 1, 3) := by decide +kernel
theorem dX9_suspectAt_133 : decode cX9_suspectAt 133 = .ok (.goto (-82), 3) := by decide +kernel
theorem dX9_suspectAt_136 : decode cX9_suspectAt 136 = .ok (.iload 4, 2) := by decide +kernel
theorem dX9_suspectAt_138 : decode cX9_suspectAt 138 = .ok (.iload_n 2, 1) := by decide +kernel
theorem dX9_suspectAt_139 : decode cX9_suspectAt 139 = .ok (.if_icmp .ne 5, 3) := by decide +kernel
theorem dX9_suspectAt_142 : decode cX9_suspectAt 142 = .ok (.iload_n 3, 1) := by decide +kernel
theorem dX9_suspectAt_143 : decode cX9_suspectAt 143 = .ok (.ireturn, 1) := by decide +kernel
theorem dX9_suspectAt_144 : decode cX9_suspectAt 144 = .ok (.iinc 3 1, 3) := by decide +kernel
theorem dX9_suspectAt_147 : decode cX9_suspectAt 147 = .ok (.goto (-117), 3) := by decide +kernel
theorem dX9_suspectAt_150 : decode cX9_suspectAt 150 = .ok (.iconst (-1), 1) := by decide +kernel
theorem dX9_suspectAt_151 : decode cX9_suspectAt 151 = .ok (.ireturn, 1) := by decide +kernel
theorem dX9_accumulationPoint_0 : decode cX9_accumulationPoint 0 = .ok (.aload_n 0, 1) := by decide +kernel
theorem dX9_accumulationPoint_1 : decode cX9_accumulationPoint 1 = .ok (.iload_n 1, 1) := by decide +kernel
theorem dX9_accumulationPoint_2 : decode cX9_accumulationPoint 2 = .ok (.invokevirtual 106, 3) := by decide +kernel
theorem dX9_accumulationPoint_5 : decode cX9_accumulationPoint 5 = .ok (.ifCond .eq 7, 3) := by decide +kernel
theorem dX9_accumulationPoint_8 : decode cX9_accumulationPoint 8 = .ok (.aload_n 0, 1) := by decide +kernel
theorem dX9_accumulationPoint_9 : decode cX9_accumulationPoint 9 = .ok (.invokevirtual 198, 3) := by decide +kernel
theorem dX9_accumulationPoint_12 : decode cX9_accumulationPoint 12 = .ok (.aload_n 0, 1) := by decide +kernel
theorem dX9_accumulationPoint_13 : decode cX9_accumulationPoint 13 = .ok (.aload_n 0, 1) := by decide +kernel
theorem dX9_accumulationPoint_14 : decode cX9_accumulationPoint 14 = .ok (.iload_n 1, 1) := by decide +kernel
theorem dX9_accumulationPoint_15 : decode cX9_accumulationPoint 15 = .ok (.invokevirtual 106, 3) := by decide +kernel
theorem dX9_accumulationPoint_18 : decode cX9_accumulationPoint 18 = .ok (.ifCond .ne 7, 3) := by decide +kernel
theorem dX9_accumulationPoint_21 : decode cX9_accumulationPoint 21 = .ok (.iconst 1, 1) := by decide +kernel
theorem dX9_accumulationPoint_22 : decode cX9_accumulationPoint 22 = .ok (.goto 30, 3) := by decide +kernel
theorem dX9_accumulationPoint_25 : decode cX9_accumulationPoint 25 = .ok (.iload_n 2, 1) := by decide +kernel
theorem dX9_accumulationPoint_26 : decode cX9_accumulationPoint 26 = .ok (.iconst 1, 1) := by decide +kernel
theorem dX9_accumulationPoint_27 : decode cX9_accumulationPoint 27 = .ok (.bipush 100, 2) := by decide +kernel
theorem dX9_accumulationPoint_29 : decode cX9_accumulationPoint 29 = .ok (.invokestatic 78, 3) := by decide +kernel
theorem dX9_accumulationPoint_32 : decode cX9_accumulationPoint 32 = .ok (.ifCond .ne 7, 3) := by decide +kernel
theorem dX9_accumulationPoint_35 : decode cX9_accumulationPoint 35 = .ok (.iconst 2, 1) := by decide +kernel
theorem dX9_accumulationPoint_36 : decode cX9_accumulationPoint 36 = .ok (.goto 16, 3) := by decide +kernel
theorem dX9_accumulationPoint_39 : decode cX9_accumulationPoint 39 = .ok (.aload_n 0, 1) := by decide +kernel
theorem dX9_accumulationPoint_40 : decode cX9_accumulationPoint 40 = .ok (.iload_n 1, 1) := by decide +kernel
theorem dX9_accumulationPoint_41 : decode cX9_accumulationPoint 41 = .ok (.invokevirtual 181, 3) := by decide +kernel
theorem dX9_accumulationPoint_44 : decode cX9_accumulationPoint 44 = .ok (.ifCond .ne 7, 3) := by decide +kernel
theorem dX9_accumulationPoint_47 : decode cX9_accumulationPoint 47 = .ok (.iconst 3, 1) := by decide +kernel
theorem dX9_accumulationPoint_48 : decode cX9_accumulationPoint 48 = .ok (.goto 4, 3) := by decide +kernel
theorem dX9_accumulationPoint_51 : decode cX9_accumulationPoint 51 = .ok (.iconst 0, 1) := by decide +kernel
theorem dX9_accumulationPoint_52 : decode cX9_accumulationPoint 52 = .ok (.invokevirtual 74, 3) := by decide +kernel
theorem dX9_accumulationPoint_55 : decode cX9_accumulationPoint 55 = .ok (.ifCond .eq 5, 3) := by decide +kernel
theorem dX9_accumulationPoint_58 : decode cX9_accumulationPoint 58 = .ok (.iconst 0, 1) := by decide +kernel
theorem dX9_accumulationPoint_59 : decode cX9_accumulationPoint 59 = .ok (.ireturn, 1) := by decide +kernel
theorem dX9_accumulationPoint_60 : decode cX9_accumulationPoint 60 = .ok (.iload_n 1, 1) := by decide +kernel
theorem dX9_accumulationPoint_61 : decode cX9_accumulationPoint 61 = .ok (.istore_n 3, 1) := by decide +kernel
theorem dX9_accumulationPoint_62 : decode cX9_accumulationPoint 62 = .ok (.iload_n 3, 1) := by decide +kernel
theorem dX9_accumulationPoint_63 : decode cX9_accumulationPoint 63 = .ok (.istore 4, 2) := by decide +kernel
theorem dX9_accumulationPoint_65 : decode cX9_accumulationPoint 65 = .ok (.iload 4, 2) := by decide +kernel
theorem dX9_accumulationPoint_67 : decode cX9_accumulationPoint 67 = .ok (.iconst (-1), 1) := by decide +kernel
theorem dX9_accumulationPoint_68 : decode cX9_accumulationPoint 68 = .ok (.if_icmp .eq 113, 3) := by decide +kernel
theorem dX9_accumulationPoint_71 : decode cX9_accumulationPoint 71 = .ok (.iload 4, 2) := by decide +kernel
theorem dX9_accumulationPoint_73 : decode cX9_accumulationPoint 73 = .ok (.istore_n 3, 1) := by decide +kernel
theorem dX9_accumulationPoint_74 : decode cX9_accumulationPoint 74 = .ok (.iconst (-1), 1) := by decide +kernel
theorem dX9_accumulationPoint_75 : decode cX9_accumulationPoint 75 = .ok (.istore 4, 2) := by decide +kernel
theorem dX9_accumulationPoint_77 : decode cX9_accumulationPoint 77 = .ok (.iconst 0, 1) := by decide +kernel
theorem dX9_accumulationPoint_78 : decode cX9_accumulationPoint 78 = .ok (.istore 5, 2) := by decide +kernel
theorem dX9_accumulationPoint_80 : decode cX9_accumulationPoint 80 = .ok (.iload 5, 2) := by decide +kernel
theorem dX9_accumulationPoint_82 : decode cX9_accumulationPoint 82 = .ok (.bipush 40, 2) := by decide +kernel
theorem dX9_accumulationPoint_84 : decode cX9_accumulationPoint 84 = .ok (.if_icmp .ge 94, 3) := by decide +kernel
theorem dX9_accumulationPoint_87 : decode cX9_accumulationPoint 87 = .ok (.aload_n 0, 1) := by decide +kernel
theorem dX9_accumulationPoint_88 : decode cX9_accumulationPoint 88 = .ok (.iload 5, 2) := by decide +kernel
theorem dX9_accumulationPoint_90 : decode cX9_accumulationPoint 90 = .ok (.invokevirtual 181, 3) := by decide +kernel
theorem dX9_accumulationPoint_93 : decode cX9_accumulationPoint 93 = .ok (.ifCond .eq 41, 3) := by decide +kernel
theorem dX9_accumulationPoint_96 : decode cX9_accumulationPoint 96 = .ok (.aload_n 0, 1) := by decide +kernel
theorem dX9_accumulationPoint_97 : decode cX9_accumulationPoint 97 = .ok (.iload 5, 2) := by decide +kernel
theorem dX9_accumulationPoint_99 : decode cX9_accumulationPoint 99 = .ok (.invokevirtual 201, 3) := by decide +kernel
theorem dX9_accumulationPoint_102 : decode cX9_accumulationPoint 102 = .ok (.iload_n 3, 1) := by decide +kernel
theorem dX9_accumulationPoint_103 : decode cX9_accumulationPoint 103 = .ok (.if_icmp .ne 31, 3) := by decide +kernel
theorem dX9_accumulationPoint_106 : decode cX9_accumulationPoint 106 = .ok (.aload_n 0, 1) := by decide +kernel
theorem dX9_accumulationPoint_107 : decode cX9_accumulationPoint 107 = .ok (.iload 5, 2) := by decide +kernel
theorem dX9_accumulationPoint_109 : decode cX9_accumulationPoint 109 = .ok (.invokevirtual 208, 3) := by decide +kernel
theorem dX9_accumulationPoint_112 : decode cX9_accumulationPoint 112 = .ok (.i2l, 1) := by decide +kernel
theorem dX9_accumulationPoint_113 : decode cX9_accumulationPoint 113 = .ok (.ldc2_w 240, 3) := by decide +kernel
theorem dX9_accumulationPoint_116 : decode cX9_accumulationPoint 116 = .ok (.lmul, 1) := by decide +kernel
theorem dX9_accumulationPoint_117 : decode cX9_accumulationPoint 117 = .ok (.iload_n 2, 1) := by decide +kernel
theorem dX9_accumulationPoint_118 : decode cX9_accumulationPoint 118 = .ok (.i2l, 1) := by decide +kernel
theorem dX9_accumulationPoint_119 : decode cX9_accumulationPoint 119 = .ok (.aload_n 0, 1) := by decide +kernel
theorem dX9_accumulationPoint_120 : decode cX9_accumulationPoint 120 = .ok (.iload_n 3, 1) := by decide +kernel
theorem dX9_accumulationPoint_121 : decode cX9_accumulationPoint 121 = .ok (.invokevirtual 208, 3) := by decide +kernel
theorem dX9_accumulationPoint_124 : decode cX9_accumulationPoint 124 = .ok (.i2l, 1) := by decide +kernel
theorem dX9_accumulationPoint_125 : decode cX9_accumulationPoint 125 = .ok (.lmul, 1) := by decide +kernel
theorem dX9_accumulationPoint_126 : decode cX9_accumulationPoint 126 = .ok (.lcmp, 1) := by decide +kernel
theorem dX9_accumulationPoint_127 : decode cX9_accumulationPoint 127 = .ok (.ifCond .lt 7, 3) := by decide +kernel
theorem dX9_accumulationPoint_130 : decode cX9_accumulationPoint 130 = .ok (.iconst 1, 1) := by decide +kernel
theorem dX9_accumulationPoint_131 : decode cX9_accumulationPoint 131 = .ok (.goto 4, 3) := by decide +kernel
theorem dX9_accumulationPoint_134 : decode cX9_accumulationPoint 134 = .ok (.iconst 0, 1) := by decide +kernel
theorem dX9_accumulationPoint_135 : decode cX9_accumulationPoint 135 = .ok (.istore 6, 2) := by decide +kernel
theorem dX9_accumulationPoint_137 : decode cX9_accumulationPoint 137 = .ok (.iload 6, 2) := by decide +kernel
theorem dX9_accumulationPoint_139 : decode cX9_accumulationPoint 139 = .ok (.ifCond .eq 29, 3) := by decide +kernel
theorem dX9_accumulationPoint_142 : decode cX9_accumulationPoint 142 = .ok (.iload 4, 2) := by decide +kernel
theorem dX9_accumulationPoint_144 : decode cX9_accumulationPoint 144 = .ok (.iconst (-1), 1) := by decide +kernel
theorem dX9_accumulationPoint_145 : decode cX9_accumulationPoint 145 = .ok (.if_icmp .eq 18, 3) := by decide +kernel
theorem dX9_accumulationPoint_148 : decode cX9_accumulationPoint 148 = .ok (.aload_n 0, 1) := by decide +kernel
theorem dX9_accumulationPoint_149 : decode cX9_accumulationPoint 149 = .ok (.iload 5, 2) := by decide +kernel
theorem dX9_accumulationPoint_151 : decode cX9_accumulationPoint 151 = .ok (.invokevirtual 208, 3) := by decide +kernel
theorem dX9_accumulationPoint_154 : decode cX9_accumulationPoint 154 = .ok (.aload_n 0, 1) := by decide +kernel
theorem dX9_accumulationPoint_155 : decode cX9_accumulationPoint 155 = .ok (.iload 4, 2) := by decide +kernel
theorem dX9_accumulationPoint_157 : decode cX9_accumulationPoint 157 = .ok (.invokevirtual 208, 3) := by decide +kernel
theorem dX9_accumulationPoint_160 : decode cX9_accumulationPoint 160 = .ok (.if_icmp .le 8, 3) := by decide +kernel
theorem dX9_accumulationPoint_163 : decode cX9_accumulationPoint 163 = .ok (.iload 5, 2) := by decide +kernel
theorem dX9_accumulationPoint_165 : decode cX9_accumulationPoint 165 = .ok (.goto 5, 3) := by decide +kernel
theorem dX9_accumulationPoint_168 : decode cX9_accumulationPoint 168 = .ok (.iload 4, 2) := by decide +kernel
theorem dX9_accumulationPoint_170 : decode cX9_accumulationPoint 170 = .ok (.istore 4, 2) := by decide +kernel
theorem dX9_accumulationPoint_172 : decode cX9_accumulationPoint 172 = .ok (.iinc 5 1, 3) := by decide +kernel
theorem dX9_accumulationPoint_175 : decode cX9_accumulationPoint 175 = .ok (.goto (-95), 3) := by decide +kernel
theorem dX9_accumulationPoint_178 : decode cX9_accumulationPoint 178 = .ok (.goto (-113), 3) := by decide +kernel
theorem dX9_accumulationPoint_181 : decode cX9_accumulationPoint 181 = .ok (.iload_n 3, 1) := by decide +kernel
theorem dX9_accumulationPoint_182 : decode cX9_accumulationPoint 182 = .ok (.ireturn, 1) := by decide +kernel
theorem dX9_append_0 : decode cX9_append 0 = .ok (.aload_n 0, 1) := by decide +kernel
theorem dX9_append_1 : decode cX9_append 1 = .ok (.iload_n 1, 1) := by decide +kernel
theorem dX9_append_2 : decode cX9_append 2 = .ok (.iconst 0, 1) := by decide +kernel
theorem dX9_append_3 : decode cX9_append 3 = .ok (.bipush 127, 2) := by decide +kernel
theorem dX9_append_5 : decode cX9_append 5 = .ok (.invokestatic 78, 3) := by decide +kernel
theorem dX9_append_8 : decode cX9_append 8 = .ok (.ifCond .ne 7, 3) := by decide +kernel
theorem dX9_append_11 : decode cX9_append 11 = .ok (.iconst 1, 1) := by decide +kernel
theorem dX9_append_12 : decode cX9_append 12 = .ok (.goto 17, 3) := by decide +kernel
theorem dX9_append_15 : decode cX9_append 15 = .ok (.aload_n 0, 1) := by decide +kernel
theorem dX9_append_16 : decode cX9_append 16 = .ok (.getfield 248, 3) := by decide +kernel
theorem dX9_append_19 : decode cX9_append 19 = .ok (.bipush 100, 2) := by decide +kernel
theorem dX9_append_21 : decode cX9_append 21 = .ok (.if_icmp .ne 7, 3) := by decide +kernel
theorem dX9_append_24 : decode cX9_append 24 = .ok (.iconst 2, 1) := by decide +kernel
theorem dX9_append_25 : decode cX9_append 25 = .ok (.goto 4, 3) := by decide +kernel
theorem dX9_append_28 : decode cX9_append 28 = .ok (.iconst 0, 1) := by decide +kernel
theorem dX9_append_29 : decode cX9_append 29 = .ok (.invokevirtual 74, 3) := by decide +kernel
theorem dX9_append_32 : decode cX9_append 32 = .ok (.ifCond .eq 5, 3) := by decide +kernel
theorem dX9_append_35 : decode cX9_append 35 = .ok (.iconst 0, 1) := by decide +kernel
theorem dX9_append_36 : decode cX9_append 36 = .ok (.ireturn, 1) := by decide +kernel
theorem dX9_append_37 : decode cX9_append 37 = .ok (.aload_n 0, 1) := by decide +kernel
theorem dX9_append_38 : decode cX9_append 38 = .ok (.getfield 19, 3) := by decide +kernel
theorem dX9_append_41 : decode cX9_append 41 = .ok (.aload_n 0, 1) := by decide +kernel
theorem dX9_append_42 : decode cX9_append 42 = .ok (.getfield 248, 3) := by decide +kernel
theorem dX9_append_45 : decode cX9_append 45 = .ok (.iload_n 1, 1) := by decide +kernel
theorem dX9_append_46 : decode cX9_append 46 = .ok (.iastore, 1) := by decide +kernel
theorem dX9_append_47 : decode cX9_append 47 = .ok (.aload_n 0, 1) := by decide +kernel
theorem dX9_append_48 : decode cX9_append 48 = .ok (.dup, 1) := by decide +kernel
theorem dX9_append_49 : decode cX9_append 49 = .ok (.getfield 248, 3) := by decide +kernel
theorem dX9_append_52 : decode cX9_append 52 = .ok (.iconst 1, 1) := by decide +kernel
theorem dX9_append_53 : decode cX9_append 53 = .ok (.iadd, 1) := by decide +kernel
theorem dX9_append_54 : decode cX9_append 54 = .ok (.putfield 248, 3) := by decide +kernel
theorem dX9_append_57 : decode cX9_append 57 = .ok (.aload_n 0, 1) := by decide +kernel
theorem dX9_append_58 : decode cX9_append 58 = .ok (.getfield 248, 3) := by decide +kernel
theorem dX9_append_61 : decode cX9_append 61 = .ok (.ireturn, 1) := by decide +kernel
theorem dX9_clearText_0 : decode cX9_clearText 0 = .ok (.aload_n 0, 1) := by decide +kernel
theorem dX9_clearText_1 : decode cX9_clearText 1 = .ok (.iconst 0, 1) := by decide +kernel
theorem dX9_clearText_2 : decode cX9_clearText 2 = .ok (.putfield 63, 3) := by decide +kernel
theorem dX9_clearText_5 : decode cX9_clearText 5 = .ok (.aload_n 0, 1) := by decide +kernel
theorem dX9_clearText_6 : decode cX9_clearText 6 = .ok (.getfield 248, 3) := by decide +kernel
theorem dX9_clearText_9 : decode cX9_clearText 9 = .ok (.istore_n 1, 1) := by decide +kernel
theorem dX9_clearText_10 : decode cX9_clearText 10 = .ok (.aload_n 0, 1) := by decide +kernel
theorem dX9_clearText_11 : decode cX9_clearText 11 = .ok (.iconst 0, 1) := by decide +kernel
theorem dX9_clearText_12 : decode cX9_clearText 12 = .ok (.putfield 248, 3) := by decide +kernel
theorem dX9_clearText_15 : decode cX9_clearText 15 = .ok (.iload_n 1, 1) := by decide +kernel
theorem dX9_clearText_16 : decode cX9_clearText 16 = .ok (.ireturn, 1) := by decide +kernel
theorem dX9_gives_0 : decode cX9_gives 0 = .ok (.aload_n 0, 1) := by decide +kernel
theorem dX9_gives_1 : decode cX9_gives 1 = .ok (.getfield 44, 3) := by decide +kernel
theorem dX9_gives_4 : decode cX9_gives 4 = .ok (.aload_n 0, 1) := by decide +kernel
theorem dX9_gives_5 : decode cX9_gives 5 = .ok (.getfield 251, 3) := by decide +kernel
theorem dX9_gives_8 : decode cX9_gives 8 = .ok (.iload_n 1, 1) := by decide +kernel
theorem dX9_gives_9 : decode cX9_gives 9 = .ok (.iastore, 1) := by decide +kernel
theorem dX9_gives_10 : decode cX9_gives 10 = .ok (.aload_n 0, 1) := by decide +kernel
theorem dX9_gives_11 : decode cX9_gives 11 = .ok (.getfield 47, 3) := by decide +kernel
theorem dX9_gives_14 : decode cX9_gives 14 = .ok (.aload_n 0, 1) := by decide +kernel
theorem dX9_gives_15 : decode cX9_gives 15 = .ok (.getfield 251, 3) := by decide +kernel
theorem dX9_gives_18 : decode cX9_gives 18 = .ok (.iload_n 2, 1) := by decide +kernel
theorem dX9_gives_19 : decode cX9_gives 19 = .ok (.iastore, 1) := by decide +kernel
theorem dX9_gives_20 : decode cX9_gives 20 = .ok (.aload_n 0, 1) := by decide +kernel
theorem dX9_gives_21 : decode cX9_gives 21 = .ok (.getfield 50, 3) := by decide +kernel
theorem dX9_gives_24 : decode cX9_gives 24 = .ok (.aload_n 0, 1) := by decide +kernel
theorem dX9_gives_25 : decode cX9_gives 25 = .ok (.getfield 251, 3) := by decide +kernel
theorem dX9_gives_28 : decode cX9_gives 28 = .ok (.iload_n 3, 1) := by decide +kernel
theorem dX9_gives_29 : decode cX9_gives 29 = .ok (.iastore, 1) := by decide +kernel
theorem dX9_gives_30 : decode cX9_gives 30 = .ok (.aload_n 0, 1) := by decide +kernel
theorem dX9_gives_31 : decode cX9_gives 31 = .ok (.dup, 1) := by decide +kernel
theorem dX9_gives_32 : decode cX9_gives 32 = .ok (.getfield 251, 3) := by decide +kernel
theorem dX9_gives_35 : decode cX9_gives 35 = .ok (.iconst 1, 1) := by decide +kernel
theorem dX9_gives_36 : decode cX9_gives 36 = .ok (.iadd, 1) := by decide +kernel
theorem dX9_gives_37 : decode cX9_gives 37 = .ok (.putfield 251, 3) := by decide +kernel
theorem dX9_gives_40 : decode cX9_gives 40 = .ok (.return_, 1) := by decide +kernel
theorem dX9_waits_0 : decode cX9_waits 0 = .ok (.aload_n 0, 1) := by decide +kernel
theorem dX9_waits_1 : decode cX9_waits 1 = .ok (.getfield 53, 3) := by decide +kernel
theorem dX9_waits_4 : decode cX9_waits 4 = .ok (.aload_n 0, 1) := by decide +kernel
theorem dX9_waits_5 : decode cX9_waits 5 = .ok (.getfield 254, 3) := by decide +kernel
theorem dX9_waits_8 : decode cX9_waits 8 = .ok (.iload_n 1, 1) := by decide +kernel
theorem dX9_waits_9 : decode cX9_waits 9 = .ok (.iastore, 1) := by decide +kernel
theorem dX9_waits_10 : decode cX9_waits 10 = .ok (.aload_n 0, 1) := by decide +kernel
theorem dX9_waits_11 : decode cX9_waits 11 = .ok (.dup, 1) := by decide +kernel
theorem dX9_waits_12 : decode cX9_waits 12 = .ok (.getfield 254, 3) := by decide +kernel
theorem dX9_waits_15 : decode cX9_waits 15 = .ok (.iconst 1, 1) := by decide +kernel
theorem dX9_waits_16 : decode cX9_waits 16 = .ok (.iadd, 1) := by decide +kernel
theorem dX9_waits_17 : decode cX9_waits 17 = .ok (.putfield 254, 3) := by decide +kernel
theorem dX9_waits_20 : decode cX9_waits 20 = .ok (.return_, 1) := by decide +kernel
theorem dX9_comesOut_0 : decode cX9_comesOut 0 = .ok (.aload_n 0, 1) := by decide +kernel
theorem dX9_comesOut_1 : decode cX9_comesOut 1 = .ok (.getfield 254, 3) := by decide +kernel
theorem dX9_comesOut_4 : decode cX9_comesOut 4 = .ok (.ifCond .le 63, 3) := by decide +kernel
theorem dX9_comesOut_7 : decode cX9_comesOut 7 = .ok (.aload_n 0, 1) := by decide +kernel
theorem dX9_comesOut_8 : decode cX9_comesOut 8 = .ok (.getfield 53, 3) := by decide +kernel
theorem dX9_comesOut_11 : decode cX9_comesOut 11 = .ok (.aload_n 0, 1) := by decide +kernel
theorem dX9_comesOut_12 : decode cX9_comesOut 12 = .ok (.getfield 254, 3) := by decide +kernel
theorem dX9_comesOut_15 : decode cX9_comesOut 15 = .ok (.iconst 1, 1) := by decide +kernel
theorem dX9_comesOut_16 : decode cX9_comesOut 16 = .ok (.isub, 1) := by decide +kernel
theorem dX9_comesOut_17 : decode cX9_comesOut 17 = .ok (.iaload, 1) := by decide +kernel
theorem dX9_comesOut_18 : decode cX9_comesOut 18 = .ok (.sipush 203, 3) := by decide +kernel
theorem dX9_comesOut_21 : decode cX9_comesOut 21 = .ok (.if_icmp .eq 46, 3) := by decide +kernel
theorem dX9_comesOut_24 : decode cX9_comesOut 24 = .ok (.aload_n 0, 1) := by decide +kernel
theorem dX9_comesOut_25 : decode cX9_comesOut 25 = .ok (.getfield 53, 3) := by decide +kernel
theorem dX9_comesOut_28 : decode cX9_comesOut 28 = .ok (.aload_n 0, 1) := by decide +kernel
theorem dX9_comesOut_29 : decode cX9_comesOut 29 = .ok (.getfield 254, 3) := by decide +kernel
theorem dX9_comesOut_32 : decode cX9_comesOut 32 = .ok (.iconst 1, 1) := by decide +kernel
theorem dX9_comesOut_33 : decode cX9_comesOut 33 = .ok (.isub, 1) := by decide +kernel
theorem dX9_comesOut_34 : decode cX9_comesOut 34 = .ok (.iaload, 1) := by decide +kernel
theorem dX9_comesOut_35 : decode cX9_comesOut 35 = .ok (.iload_n 1, 1) := by decide +kernel
theorem dX9_comesOut_36 : decode cX9_comesOut 36 = .ok (.if_icmp .gt 31, 3) := by decide +kernel
theorem dX9_comesOut_39 : decode cX9_comesOut 39 = .ok (.aload_n 0, 1) := by decide +kernel
theorem dX9_comesOut_40 : decode cX9_comesOut 40 = .ok (.dup, 1) := by decide +kernel
theorem dX9_comesOut_41 : decode cX9_comesOut 41 = .ok (.getfield 254, 3) := by decide +kernel
theorem dX9_comesOut_44 : decode cX9_comesOut 44 = .ok (.iconst 1, 1) := by decide +kernel
theorem dX9_comesOut_45 : decode cX9_comesOut 45 = .ok (.isub, 1) := by decide +kernel
theorem dX9_comesOut_46 : decode cX9_comesOut 46 = .ok (.putfield 254, 3) := by decide +kernel
theorem dX9_comesOut_49 : decode cX9_comesOut 49 = .ok (.aload_n 0, 1) := by decide +kernel
theorem dX9_comesOut_50 : decode cX9_comesOut 50 = .ok (.aload_n 0, 1) := by decide +kernel
theorem dX9_comesOut_51 : decode cX9_comesOut 51 = .ok (.getfield 53, 3) := by decide +kernel
theorem dX9_comesOut_54 : decode cX9_comesOut 54 = .ok (.aload_n 0, 1) := by decide +kernel
theorem dX9_comesOut_55 : decode cX9_comesOut 55 = .ok (.getfield 254, 3) := by decide +kernel
theorem dX9_comesOut_58 : decode cX9_comesOut 58 = .ok (.iaload, 1) := by decide +kernel
theorem dX9_comesOut_59 : decode cX9_comesOut 59 = .ok (.iconst 0, 1) := by decide +kernel
theorem dX9_comesOut_60 : decode cX9_comesOut 60 = .ok (.iconst 0, 1) := by decide +kernel
theorem dX9_comesOut_61 : decode cX9_comesOut 61 = .ok (.invokevirtual 257, 3) := by decide +kernel
theorem dX9_comesOut_64 : decode cX9_comesOut 64 = .ok (.goto (-64), 3) := by decide +kernel
theorem dX9_comesOut_67 : decode cX9_comesOut 67 = .ok (.return_, 1) := by decide +kernel
theorem dX9_letter_0 : decode cX9_letter 0 = .ok (.iload_n 1, 1) := by decide +kernel
theorem dX9_letter_1 : decode cX9_letter 1 = .ok (.aload_n 0, 1) := by decide +kernel
theorem dX9_letter_2 : decode cX9_letter 2 = .ok (.getfield 248, 3) := by decide +kernel
theorem dX9_letter_5 : decode cX9_letter 5 = .ok (.if_icmp .ge 12, 3) := by decide +kernel
theorem dX9_letter_8 : decode cX9_letter 8 = .ok (.aload_n 0, 1) := by decide +kernel
theorem dX9_letter_9 : decode cX9_letter 9 = .ok (.getfield 19, 3) := by decide +kernel
theorem dX9_letter_12 : decode cX9_letter 12 = .ok (.iload_n 1, 1) := by decide +kernel
theorem dX9_letter_13 : decode cX9_letter 13 = .ok (.iaload, 1) := by decide +kernel
theorem dX9_letter_14 : decode cX9_letter 14 = .ok (.goto 4, 3) := by decide +kernel
theorem dX9_letter_17 : decode cX9_letter 17 = .ok (.iconst (-1), 1) := by decide +kernel
theorem dX9_letter_18 : decode cX9_letter 18 = .ok (.ireturn, 1) := by decide +kernel
theorem dX9_isDigit_0 : decode cX9_isDigit 0 = .ok (.iload_n 0, 1) := by decide +kernel
theorem dX9_isDigit_1 : decode cX9_isDigit 1 = .ok (.bipush 48, 2) := by decide +kernel
theorem dX9_isDigit_3 : decode cX9_isDigit 3 = .ok (.bipush 57, 2) := by decide +kernel
theorem dX9_isDigit_5 : decode cX9_isDigit 5 = .ok (.invokestatic 78, 3) := by decide +kernel
theorem dX9_isDigit_8 : decode cX9_isDigit 8 = .ok (.ireturn, 1) := by decide +kernel
theorem dX9_isValue_0 : decode cX9_isValue 0 = .ok (.iload_n 0, 1) := by decide +kernel
theorem dX9_isValue_1 : decode cX9_isValue 1 = .ok (.bipush 115, 2) := by decide +kernel
theorem dX9_isValue_3 : decode cX9_isValue 3 = .ok (.if_icmp .eq 45, 3) := by decide +kernel
theorem dX9_isValue_6 : decode cX9_isValue 6 = .ok (.iload_n 0, 1) := by decide +kernel
theorem dX9_isValue_7 : decode cX9_isValue 7 = .ok (.bipush 114, 2) := by decide +kernel
theorem dX9_isValue_9 : decode cX9_isValue 9 = .ok (.if_icmp .eq 39, 3) := by decide +kernel
theorem dX9_isValue_12 : decode cX9_isValue 12 = .ok (.iload_n 0, 1) := by decide +kernel
theorem dX9_isValue_13 : decode cX9_isValue 13 = .ok (.bipush 100, 2) := by decide +kernel
theorem dX9_isValue_15 : decode cX9_isValue 15 = .ok (.if_icmp .eq 33, 3) := by decide +kernel
theorem dX9_isValue_18 : decode cX9_isValue 18 = .ok (.iload_n 0, 1) := by decide +kernel
theorem dX9_isValue_19 : decode cX9_isValue 19 = .ok (.bipush 105, 2) := by decide +kernel
theorem dX9_isValue_21 : decode cX9_isValue 21 = .ok (.if_icmp .eq 27, 3) := by decide +kernel
theorem dX9_isValue_24 : decode cX9_isValue 24 = .ok (.iload_n 0, 1) := by decide +kernel
theorem dX9_isValue_25 : decode cX9_isValue 25 = .ok (.bipush 111, 2) := by decide +kernel
theorem dX9_isValue_27 : decode cX9_isValue 27 = .ok (.if_icmp .eq 21, 3) := by decide +kernel
theorem dX9_isValue_30 : decode cX9_isValue 30 = .ok (.iload_n 0, 1) := by decide +kernel
theorem dX9_isValue_31 : decode cX9_isValue 31 = .ok (.bipush 97, 2) := by decide +kernel
theorem dX9_isValue_33 : decode cX9_isValue 33 = .ok (.if_icmp .eq 15, 3) := by decide +kernel
theorem dX9_isValue_36 : decode cX9_isValue 36 = .ok (.iload_n 0, 1) := by decide +kernel
theorem dX9_isValue_37 : decode cX9_isValue 37 = .ok (.bipush 110, 2) := by decide +kernel
theorem dX9_isValue_39 : decode cX9_isValue 39 = .ok (.if_icmp .eq 9, 3) := by decide +kernel
theorem dX9_isValue_42 : decode cX9_isValue 42 = .ok (.iload_n 0, 1) := by decide +kernel
theorem dX9_isValue_43 : decode cX9_isValue 43 = .ok (.bipush 103, 2) := by decide +kernel
theorem dX9_isValue_45 : decode cX9_isValue 45 = .ok (.if_icmp .ne 7, 3) := by decide +kernel
theorem dX9_isValue_48 : decode cX9_isValue 48 = .ok (.iconst 1, 1) := by decide +kernel
theorem dX9_isValue_49 : decode cX9_isValue 49 = .ok (.goto 4, 3) := by decide +kernel
theorem dX9_isValue_52 : decode cX9_isValue 52 = .ok (.iconst 0, 1) := by decide +kernel
theorem dX9_isValue_53 : decode cX9_isValue 53 = .ok (.ireturn, 1) := by decide +kernel
theorem dX9_unit_0 : decode cX9_unit 0 = .ok (.aload_n 0, 1) := by decide +kernel
theorem dX9_unit_1 : decode cX9_unit 1 = .ok (.iload_n 1, 1) := by decide +kernel
theorem dX9_unit_2 : decode cX9_unit 2 = .ok (.invokevirtual 261, 3) := by decide +kernel
theorem dX9_unit_5 : decode cX9_unit 5 = .ok (.istore_n 2, 1) := by decide +kernel
theorem dX9_unit_6 : decode cX9_unit 6 = .ok (.iload_n 2, 1) := by decide +kernel
theorem dX9_unit_7 : decode cX9_unit 7 = .ok (.bipush 42, 2) := by decide +kernel
theorem dX9_unit_9 : decode cX9_unit 9 = .ok (.if_icmp .ne 19, 3) := by decide +kernel
theorem dX9_unit_12 : decode cX9_unit 12 = .ok (.aload_n 0, 1) := by decide +kernel
theorem dX9_unit_13 : decode cX9_unit 13 = .ok (.iload_n 2, 1) := by decide +kernel
theorem dX9_unit_14 : decode cX9_unit 14 = .ok (.iconst 0, 1) := by decide +kernel
theorem dX9_unit_15 : decode cX9_unit 15 = .ok (.iconst 0, 1) := by decide +kernel
theorem dX9_unit_16 : decode cX9_unit 16 = .ok (.invokevirtual 257, 3) := by decide +kernel
theorem dX9_unit_19 : decode cX9_unit 19 = .ok (.aload_n 0, 1) := by decide +kernel
theorem dX9_unit_20 : decode cX9_unit 20 = .ok (.iload_n 1, 1) := by decide +kernel
theorem dX9_unit_21 : decode cX9_unit 21 = .ok (.iconst 1, 1) := by decide +kernel
theorem dX9_unit_22 : decode cX9_unit 22 = .ok (.iadd, 1) := by decide +kernel
theorem dX9_unit_23 : decode cX9_unit 23 = .ok (.putfield 264, 3) := by decide +kernel
theorem dX9_unit_26 : decode cX9_unit 26 = .ok (.iconst (-1), 1) := by decide +kernel
theorem dX9_unit_27 : decode cX9_unit 27 = .ok (.ireturn, 1) := by decide +kernel
theorem dX9_unit_28 : decode cX9_unit 28 = .ok (.iload_n 2, 1) := by decide +kernel
theorem dX9_unit_29 : decode cX9_unit 29 = .ok (.bipush 64, 2) := by decide +kernel
theorem dX9_unit_31 : decode cX9_unit 31 = .ok (.if_icmp .ne 45, 3) := by decide +kernel
theorem dX9_unit_34 : decode cX9_unit 34 = .ok (.aload_n 0, 1) := by decide +kernel
theorem dX9_unit_35 : decode cX9_unit 35 = .ok (.iload_n 1, 1) := by decide +kernel
theorem dX9_unit_36 : decode cX9_unit 36 = .ok (.iconst 1, 1) := by decide +kernel
theorem dX9_unit_37 : decode cX9_unit 37 = .ok (.iadd, 1) := by decide +kernel
theorem dX9_unit_38 : decode cX9_unit 38 = .ok (.invokevirtual 261, 3) := by decide +kernel
theorem dX9_unit_41 : decode cX9_unit 41 = .ok (.invokestatic 267, 3) := by decide +kernel
theorem dX9_unit_44 : decode cX9_unit 44 = .ok (.ifCond .ne 7, 3) := by decide +kernel
theorem dX9_unit_47 : decode cX9_unit 47 = .ok (.iload_n 1, 1) := by decide +kernel
theorem dX9_unit_48 : decode cX9_unit 48 = .ok (.iconst 1, 1) := by decide +kernel
theorem dX9_unit_49 : decode cX9_unit 49 = .ok (.iadd, 1) := by decide +kernel
theorem dX9_unit_50 : decode cX9_unit 50 = .ok (.ireturn, 1) := by decide +kernel
theorem dX9_unit_51 : decode cX9_unit 51 = .ok (.aload_n 0, 1) := by decide +kernel
theorem dX9_unit_52 : decode cX9_unit 52 = .ok (.iload_n 2, 1) := by decide +kernel
theorem dX9_unit_53 : decode cX9_unit 53 = .ok (.iconst 0, 1) := by decide +kernel
theorem dX9_unit_54 : decode cX9_unit 54 = .ok (.aload_n 0, 1) := by decide +kernel
theorem dX9_unit_55 : decode cX9_unit 55 = .ok (.iload_n 1, 1) := by decide +kernel
theorem dX9_unit_56 : decode cX9_unit 56 = .ok (.iconst 1, 1) := by decide +kernel
theorem dX9_unit_57 : decode cX9_unit 57 = .ok (.iadd, 1) := by decide +kernel
theorem dX9_unit_58 : decode cX9_unit 58 = .ok (.invokevirtual 261, 3) := by decide +kernel
theorem dX9_unit_61 : decode cX9_unit 61 = .ok (.bipush 48, 2) := by decide +kernel
theorem dX9_unit_63 : decode cX9_unit 63 = .ok (.isub, 1) := by decide +kernel
theorem dX9_unit_64 : decode cX9_unit 64 = .ok (.invokevirtual 257, 3) := by decide +kernel
theorem dX9_unit_67 : decode cX9_unit 67 = .ok (.aload_n 0, 1) := by decide +kernel
theorem dX9_unit_68 : decode cX9_unit 68 = .ok (.iload_n 1, 1) := by decide +kernel
theorem dX9_unit_69 : decode cX9_unit 69 = .ok (.iconst 2, 1) := by decide +kernel
theorem dX9_unit_70 : decode cX9_unit 70 = .ok (.iadd, 1) := by decide +kernel
theorem dX9_unit_71 : decode cX9_unit 71 = .ok (.putfield 264, 3) := by decide +kernel
theorem dX9_unit_74 : decode cX9_unit 74 = .ok (.iconst (-1), 1) := by decide +kernel
theorem dX9_unit_75 : decode cX9_unit 75 = .ok (.ireturn, 1) := by decide +kernel
theorem dX9_unit_76 : decode cX9_unit 76 = .ok (.iload_n 2, 1) := by decide +kernel
theorem dX9_unit_77 : decode cX9_unit 77 = .ok (.invokestatic 270, 3) := by decide +kernel
theorem dX9_unit_80 : decode cX9_unit 80 = .ok (.ifCond .ne 5, 3) := by decide +kernel
theorem dX9_unit_83 : decode cX9_unit 83 = .ok (.iload_n 1, 1) := by decide +kernel
theorem dX9_unit_84 : decode cX9_unit 84 = .ok (.ireturn, 1) := by decide +kernel
theorem dX9_unit_85 : decode cX9_unit 85 = .ok (.aload_n 0, 1) := by decide +kernel
theorem dX9_unit_86 : decode cX9_unit 86 = .ok (.iload_n 1, 1) := by decide +kernel
theorem dX9_unit_87 : decode cX9_unit 87 = .ok (.iconst 1, 1) := by decide +kernel
theorem dX9_unit_88 : decode cX9_unit 88 = .ok (.iadd, 1) := by decide +kernel
theorem dX9_unit_89 : decode cX9_unit 89 = .ok (.invokevirtual 261, 3) := by decide +kernel
theorem dX9_unit_92 : decode cX9_unit 92 = .ok (.istore_n 3, 1) := by decide +kernel
theorem dX9_unit_93 : decode cX9_unit 93 = .ok (.iload_n 3, 1) := by decide +kernel
theorem dX9_unit_94 : decode cX9_unit 94 = .ok (.bipush 60, 2) := by decide +kernel
theorem dX9_unit_96 : decode cX9_unit 96 = .ok (.if_icmp .eq 19, 3) := by decide +kernel
theorem dX9_unit_99 : decode cX9_unit 99 = .ok (.iload_n 3, 1) := by decide +kernel
theorem dX9_unit_100 : decode cX9_unit 100 = .ok (.bipush 61, 2) := by decide +kernel
theorem dX9_unit_102 : decode cX9_unit 102 = .ok (.if_icmp .eq 13, 3) := by decide +kernel
theorem dX9_unit_105 : decode cX9_unit 105 = .ok (.iload_n 3, 1) := by decide +kernel
theorem dX9_unit_106 : decode cX9_unit 106 = .ok (.bipush 62, 2) := by decide +kernel
theorem dX9_unit_108 : decode cX9_unit 108 = .ok (.if_icmp .eq 7, 3) := by decide +kernel
theorem dX9_unit_111 : decode cX9_unit 111 = .ok (.iload_n 1, 1) := by decide +kernel
theorem dX9_unit_112 : decode cX9_unit 112 = .ok (.iconst 1, 1) := by decide +kernel
theorem dX9_unit_113 : decode cX9_unit 113 = .ok (.iadd, 1) := by decide +kernel
theorem dX9_unit_114 : decode cX9_unit 114 = .ok (.ireturn, 1) := by decide +kernel
theorem dX9_unit_115 : decode cX9_unit 115 = .ok (.iload_n 1, 1) := by decide +kernel
theorem dX9_unit_116 : decode cX9_unit 116 = .ok (.iconst 2, 1) := by decide +kernel
theorem dX9_unit_117 : decode cX9_unit 117 = .ok (.iadd, 1) := by decide +kernel
theorem dX9_unit_118 : decode cX9_unit 118 = .ok (.istore 4, 2) := by decide +kernel
theorem dX9_unit_120 : decode cX9_unit 120 = .ok (.iconst 0, 1) := by decide +kernel
theorem dX9_unit_121 : decode cX9_unit 121 = .ok (.istore 5, 2) := by decide +kernel
theorem dX9_unit_123 : decode cX9_unit 123 = .ok (.iload 4, 2) := by decide +kernel
theorem dX9_unit_125 : decode cX9_unit 125 = .ok (.iload_n 1, 1) := by decide +kernel
theorem dX9_unit_126 : decode cX9_unit 126 = .ok (.bipush 6, 2) := by decide +kernel
theorem dX9_unit_128 : decode cX9_unit 128 = .ok (.iadd, 1) := by decide +kernel
theorem dX9_unit_129 : decode cX9_unit 129 = .ok (.if_icmp .ge 38, 3) := by decide +kernel
theorem dX9_unit_132 : decode cX9_unit 132 = .ok (.aload_n 0, 1) := by decide +kernel
theorem dX9_unit_133 : decode cX9_unit 133 = .ok (.iload 4, 2) := by decide +kernel
theorem dX9_unit_135 : decode cX9_unit 135 = .ok (.invokevirtual 261, 3) := by decide +kernel
theorem dX9_unit_138 : decode cX9_unit 138 = .ok (.invokestatic 267, 3) := by decide +kernel
theorem dX9_unit_141 : decode cX9_unit 141 = .ok (.ifCond .eq 26, 3) := by decide +kernel
theorem dX9_unit_144 : decode cX9_unit 144 = .ok (.bipush 10, 2) := by decide +kernel
theorem dX9_unit_146 : decode cX9_unit 146 = .ok (.iload 5, 2) := by decide +kernel
theorem dX9_unit_148 : decode cX9_unit 148 = .ok (.imul, 1) := by decide +kernel
theorem dX9_unit_149 : decode cX9_unit 149 = .ok (.aload_n 0, 1) := by decide +kernel
theorem dX9_unit_150 : decode cX9_unit 150 = .ok (.iload 4, 2) := by decide +kernel
theorem dX9_unit_152 : decode cX9_unit 152 = .ok (.invokevirtual 261, 3) := by decide +kernel
theorem dX9_unit_155 : decode cX9_unit 155 = .ok (.iadd, 1) := by decide +kernel
theorem dX9_unit_156 : decode cX9_unit 156 = .ok (.bipush 48, 2) := by decide +kernel
theorem dX9_unit_158 : decode cX9_unit 158 = .ok (.isub, 1) := by decide +kernel
theorem dX9_unit_159 : decode cX9_unit 159 = .ok (.istore 5, 2) := by decide +kernel
theorem dX9_unit_161 : decode cX9_unit 161 = .ok (.iinc 4 1, 3) := by decide +kernel
theorem dX9_unit_164 : decode cX9_unit 164 = .ok (.goto (-41), 3) := by decide +kernel
theorem dX9_unit_167 : decode cX9_unit 167 = .ok (.iload 4, 2) := by decide +kernel
theorem dX9_unit_169 : decode cX9_unit 169 = .ok (.iload_n 1, 1) := by decide +kernel
theorem dX9_unit_170 : decode cX9_unit 170 = .ok (.iconst 2, 1) := by decide +kernel
theorem dX9_unit_171 : decode cX9_unit 171 = .ok (.iadd, 1) := by decide +kernel
theorem dX9_unit_172 : decode cX9_unit 172 = .ok (.if_icmp .ne 6, 3) := by decide +kernel
theorem dX9_unit_175 : decode cX9_unit 175 = .ok (.iload 4, 2) := by decide +kernel
theorem dX9_unit_177 : decode cX9_unit 177 = .ok (.ireturn, 1) := by decide +kernel
theorem dX9_unit_178 : decode cX9_unit 178 = .ok (.aload_n 0, 1) := by decide +kernel
theorem dX9_unit_179 : decode cX9_unit 179 = .ok (.iload_n 2, 1) := by decide +kernel
theorem dX9_unit_180 : decode cX9_unit 180 = .ok (.iload_n 3, 1) := by decide +kernel
theorem dX9_unit_181 : decode cX9_unit 181 = .ok (.iload 5, 2) := by decide +kernel
theorem dX9_unit_183 : decode cX9_unit 183 = .ok (.invokevirtual 257, 3) := by decide +kernel
theorem dX9_unit_186 : decode cX9_unit 186 = .ok (.aload_n 0, 1) := by decide +kernel
theorem dX9_unit_187 : decode cX9_unit 187 = .ok (.iload 4, 2) := by decide +kernel
theorem dX9_unit_189 : decode cX9_unit 189 = .ok (.putfield 264, 3) := by decide +kernel
theorem dX9_unit_192 : decode cX9_unit 192 = .ok (.iconst (-1), 1) := by decide +kernel
theorem dX9_unit_193 : decode cX9_unit 193 = .ok (.ireturn, 1) := by decide +kernel
theorem dX9_reads_0 : decode cX9_reads 0 = .ok (.aload_n 0, 1) := by decide +kernel
theorem dX9_reads_1 : decode cX9_reads 1 = .ok (.iconst 0, 1) := by decide +kernel
theorem dX9_reads_2 : decode cX9_reads 2 = .ok (.putfield 251, 3) := by decide +kernel
theorem dX9_reads_5 : decode cX9_reads 5 = .ok (.aload_n 0, 1) := by decide +kernel
theorem dX9_reads_6 : decode cX9_reads 6 = .ok (.iconst 0, 1) := by decide +kernel
theorem dX9_reads_7 : decode cX9_reads 7 = .ok (.putfield 254, 3) := by decide +kernel
theorem dX9_reads_10 : decode cX9_reads 10 = .ok (.iconst 0, 1) := by decide +kernel
theorem dX9_reads_11 : decode cX9_reads 11 = .ok (.istore_n 1, 1) := by decide +kernel
theorem dX9_reads_12 : decode cX9_reads 12 = .ok (.iconst 1, 1) := by decide +kernel
theorem dX9_reads_13 : decode cX9_reads 13 = .ok (.istore_n 2, 1) := by decide +kernel
theorem dX9_reads_14 : decode cX9_reads 14 = .ok (.iconst 0, 1) := by decide +kernel
theorem dX9_reads_15 : decode cX9_reads 15 = .ok (.istore_n 3, 1) := by decide +kernel
theorem dX9_reads_16 : decode cX9_reads 16 = .ok (.iload_n 3, 1) := by decide +kernel
theorem dX9_reads_17 : decode cX9_reads 17 = .ok (.aload_n 0, 1) := by decide +kernel
theorem dX9_reads_18 : decode cX9_reads 18 = .ok (.getfield 248, 3) := by decide +kernel
theorem dX9_reads_21 : decode cX9_reads 21 = .ok (.if_icmp .ge 218, 3) := by decide +kernel
theorem dX9_reads_24 : decode cX9_reads 24 = .ok (.aload_n 0, 1) := by decide +kernel
theorem dX9_reads_25 : decode cX9_reads 25 = .ok (.getfield 19, 3) := by decide +kernel
theorem dX9_reads_28 : decode cX9_reads 28 = .ok (.iload_n 3, 1) := by decide +kernel
theorem dX9_reads_29 : decode cX9_reads 29 = .ok (.iaload, 1) := by decide +kernel
theorem dX9_reads_30 : decode cX9_reads 30 = .ok (.istore 4, 2) := by decide +kernel
theorem dX9_reads_32 : decode cX9_reads 32 = .ok (.iload_n 2, 1) := by decide +kernel
theorem dX9_reads_33 : decode cX9_reads 33 = .ok (.ifCond .eq 23, 3) := by decide +kernel
theorem dX9_reads_36 : decode cX9_reads 36 = .ok (.iload 4, 2) := by decide +kernel
theorem dX9_reads_38 : decode cX9_reads 38 = .ok (.bipush 33, 2) := by decide +kernel
theorem dX9_reads_40 : decode cX9_reads 40 = .ok (.if_icmp .ne 16, 3) := by decide +kernel
theorem dX9_reads_43 : decode cX9_reads 43 = .ok (.aload_n 0, 1) := by decide +kernel
theorem dX9_reads_44 : decode cX9_reads 44 = .ok (.sipush 200, 3) := by decide +kernel
theorem dX9_reads_47 : decode cX9_reads 47 = .ok (.invokevirtual 273, 3) := by decide +kernel
theorem dX9_reads_50 : decode cX9_reads 50 = .ok (.iinc 3 1, 3) := by decide +kernel
theorem dX9_reads_53 : decode cX9_reads 53 = .ok (.goto 183, 3) := by decide +kernel
theorem dX9_reads_56 : decode cX9_reads 56 = .ok (.iload_n 2, 1) := by decide +kernel
theorem dX9_reads_57 : decode cX9_reads 57 = .ok (.ifCond .eq 34, 3) := by decide +kernel
theorem dX9_reads_60 : decode cX9_reads 60 = .ok (.iload 4, 2) := by decide +kernel
theorem dX9_reads_62 : decode cX9_reads 62 = .ok (.bipush 40, 2) := by decide +kernel
theorem dX9_reads_64 : decode cX9_reads 64 = .ok (.if_icmp .ne 27, 3) := by decide +kernel
theorem dX9_reads_67 : decode cX9_reads 67 = .ok (.iload_n 1, 1) := by decide +kernel
theorem dX9_reads_68 : decode cX9_reads 68 = .ok (.bipush 8, 2) := by decide +kernel
theorem dX9_reads_70 : decode cX9_reads 70 = .ok (.if_icmp .ne 5, 3) := by decide +kernel
theorem dX9_reads_73 : decode cX9_reads 73 = .ok (.iload_n 3, 1) := by decide +kernel
theorem dX9_reads_74 : decode cX9_reads 74 = .ok (.ireturn, 1) := by decide +kernel
theorem dX9_reads_75 : decode cX9_reads 75 = .ok (.aload_n 0, 1) := by decide +kernel
theorem dX9_reads_76 : decode cX9_reads 76 = .ok (.sipush 203, 3) := by decide +kernel
theorem dX9_reads_79 : decode cX9_reads 79 = .ok (.invokevirtual 273, 3) := by decide +kernel
theorem dX9_reads_82 : decode cX9_reads 82 = .ok (.iinc 1 1, 3) := by decide +kernel
theorem dX9_reads_85 : decode cX9_reads 85 = .ok (.iinc 3 1, 3) := by decide +kernel
theorem dX9_reads_88 : decode cX9_reads 88 = .ok (.goto 148, 3) := by decide +kernel
theorem dX9_reads_91 : decode cX9_reads 91 = .ok (.iload_n 2, 1) := by decide +kernel
theorem dX9_reads_92 : decode cX9_reads 92 = .ok (.ifCond .eq 36, 3) := by decide +kernel
theorem dX9_reads_95 : decode cX9_reads 95 = .ok (.aload_n 0, 1) := by decide +kernel
theorem dX9_reads_96 : decode cX9_reads 96 = .ok (.iload_n 3, 1) := by decide +kernel
theorem dX9_reads_97 : decode cX9_reads 97 = .ok (.invokevirtual 277, 3) := by decide +kernel
theorem dX9_reads_100 : decode cX9_reads 100 = .ok (.istore 5, 2) := by decide +kernel
theorem dX9_reads_102 : decode cX9_reads 102 = .ok (.iload 5, 2) := by decide +kernel
theorem dX9_reads_104 : decode cX9_reads 104 = .ok (.iconst (-1), 1) := by decide +kernel
theorem dX9_reads_105 : decode cX9_reads 105 = .ok (.if_icmp .eq 6, 3) := by decide +kernel
theorem dX9_reads_108 : decode cX9_reads 108 = .ok (.iload 5, 2) := by decide +kernel
theorem dX9_reads_110 : decode cX9_reads 110 = .ok (.ireturn, 1) := by decide +kernel
theorem dX9_reads_111 : decode cX9_reads 111 = .ok (.aload_n 0, 1) := by decide +kernel
theorem dX9_reads_112 : decode cX9_reads 112 = .ok (.getfield 264, 3) := by decide +kernel
theorem dX9_reads_115 : decode cX9_reads 115 = .ok (.istore_n 3, 1) := by decide +kernel
theorem dX9_reads_116 : decode cX9_reads 116 = .ok (.aload_n 0, 1) := by decide +kernel
theorem dX9_reads_117 : decode cX9_reads 117 = .ok (.sipush 200, 3) := by decide +kernel
theorem dX9_reads_120 : decode cX9_reads 120 = .ok (.invokevirtual 280, 3) := by decide +kernel
theorem dX9_reads_123 : decode cX9_reads 123 = .ok (.iconst 0, 1) := by decide +kernel
theorem dX9_reads_124 : decode cX9_reads 124 = .ok (.istore_n 2, 1) := by decide +kernel
theorem dX9_reads_125 : decode cX9_reads 125 = .ok (.goto 111, 3) := by decide +kernel
theorem dX9_reads_128 : decode cX9_reads 128 = .ok (.iload 4, 2) := by decide +kernel
theorem dX9_reads_130 : decode cX9_reads 130 = .ok (.bipush 38, 2) := by decide +kernel
theorem dX9_reads_132 : decode cX9_reads 132 = .ok (.if_icmp .eq 10, 3) := by decide +kernel
theorem dX9_reads_135 : decode cX9_reads 135 = .ok (.iload 4, 2) := by decide +kernel
theorem dX9_reads_137 : decode cX9_reads 137 = .ok (.bipush 124, 2) := by decide +kernel
theorem dX9_reads_139 : decode cX9_reads 139 = .ok (.if_icmp .ne 51, 3) := by decide +kernel
theorem dX9_reads_142 : decode cX9_reads 142 = .ok (.aload_n 0, 1) := by decide +kernel
theorem dX9_reads_143 : decode cX9_reads 143 = .ok (.iload 4, 2) := by decide +kernel
theorem dX9_reads_145 : decode cX9_reads 145 = .ok (.bipush 38, 2) := by decide +kernel
theorem dX9_reads_147 : decode cX9_reads 147 = .ok (.if_icmp .ne 9, 3) := by decide +kernel
theorem dX9_reads_150 : decode cX9_reads 150 = .ok (.sipush 201, 3) := by decide +kernel
theorem dX9_reads_153 : decode cX9_reads 153 = .ok (.goto 6, 3) := by decide +kernel
theorem dX9_reads_156 : decode cX9_reads 156 = .ok (.sipush 202, 3) := by decide +kernel
theorem dX9_reads_159 : decode cX9_reads 159 = .ok (.invokevirtual 280, 3) := by decide +kernel
theorem dX9_reads_162 : decode cX9_reads 162 = .ok (.aload_n 0, 1) := by decide +kernel
theorem dX9_reads_163 : decode cX9_reads 163 = .ok (.iload 4, 2) := by decide +kernel
theorem dX9_reads_165 : decode cX9_reads 165 = .ok (.bipush 38, 2) := by decide +kernel
theorem dX9_reads_167 : decode cX9_reads 167 = .ok (.if_icmp .ne 9, 3) := by decide +kernel
theorem dX9_reads_170 : decode cX9_reads 170 = .ok (.sipush 201, 3) := by decide +kernel
theorem dX9_reads_173 : decode cX9_reads 173 = .ok (.goto 6, 3) := by decide +kernel
theorem dX9_reads_176 : decode cX9_reads 176 = .ok (.sipush 202, 3) := by decide +kernel
theorem dX9_reads_179 : decode cX9_reads 179 = .ok (.invokevirtual 273, 3) := by decide +kernel
theorem dX9_reads_182 : decode cX9_reads 182 = .ok (.iconst 1, 1) := by decide +kernel
theorem dX9_reads_183 : decode cX9_reads 183 = .ok (.istore_n 2, 1) := by decide +kernel
theorem dX9_reads_184 : decode cX9_reads 184 = .ok (.iinc 3 1, 3) := by decide +kernel
theorem dX9_reads_187 : decode cX9_reads 187 = .ok (.goto 49, 3) := by decide +kernel
theorem dX9_reads_190 : decode cX9_reads 190 = .ok (.iload 4, 2) := by decide +kernel
theorem dX9_reads_192 : decode cX9_reads 192 = .ok (.bipush 41, 2) := by decide +kernel
theorem dX9_reads_194 : decode cX9_reads 194 = .ok (.if_icmp .ne 40, 3) := by decide +kernel
theorem dX9_reads_197 : decode cX9_reads 197 = .ok (.iload_n 1, 1) := by decide +kernel
theorem dX9_reads_198 : decode cX9_reads 198 = .ok (.ifCond .le 36, 3) := by decide +kernel
theorem dX9_reads_201 : decode cX9_reads 201 = .ok (.aload_n 0, 1) := by decide +kernel
theorem dX9_reads_202 : decode cX9_reads 202 = .ok (.sipush 202, 3) := by decide +kernel
theorem dX9_reads_205 : decode cX9_reads 205 = .ok (.invokevirtual 280, 3) := by decide +kernel
theorem dX9_reads_208 : decode cX9_reads 208 = .ok (.aload_n 0, 1) := by decide +kernel
theorem dX9_reads_209 : decode cX9_reads 209 = .ok (.dup, 1) := by decide +kernel
theorem dX9_reads_210 : decode cX9_reads 210 = .ok (.getfield 254, 3) := by decide +kernel
theorem dX9_reads_213 : decode cX9_reads 213 = .ok (.iconst 1, 1) := by decide +kernel
theorem dX9_reads_214 : decode cX9_reads 214 = .ok (.isub, 1) := by decide +kernel
theorem dX9_reads_215 : decode cX9_reads 215 = .ok (.putfield 254, 3) := by decide +kernel
theorem dX9_reads_218 : decode cX9_reads 218 = .ok (.iinc 1 (-1), 3) := by decide +kernel
theorem dX9_reads_221 : decode cX9_reads 221 = .ok (.aload_n 0, 1) := by decide +kernel
theorem dX9_reads_222 : decode cX9_reads 222 = .ok (.sipush 200, 3) := by decide +kernel
theorem dX9_reads_225 : decode cX9_reads 225 = .ok (.invokevirtual 280, 3) := by decide +kernel
theorem dX9_reads_228 : decode cX9_reads 228 = .ok (.iinc 3 1, 3) := by decide +kernel
theorem dX9_reads_231 : decode cX9_reads 231 = .ok (.goto 5, 3) := by decide +kernel
theorem dX9_reads_234 : decode cX9_reads 234 = .ok (.iload_n 3, 1) := by decide +kernel
theorem dX9_reads_235 : decode cX9_reads 235 = .ok (.ireturn, 1) := by decide +kernel
theorem dX9_reads_236 : decode cX9_reads 236 = .ok (.goto (-220), 3) := by decide +kernel
theorem dX9_reads_239 : decode cX9_reads 239 = .ok (.iload_n 2, 1) := by decide +kernel
theorem dX9_reads_240 : decode cX9_reads 240 = .ok (.ifCond .ne 7, 3) := by decide +kernel
theorem dX9_reads_243 : decode cX9_reads 243 = .ok (.iload_n 1, 1) := by decide +kernel
theorem dX9_reads_244 : decode cX9_reads 244 = .ok (.ifCond .le 8, 3) := by decide +kernel
theorem dX9_reads_247 : decode cX9_reads 247 = .ok (.aload_n 0, 1) := by decide +kernel
theorem dX9_reads_248 : decode cX9_reads 248 = .ok (.getfield 248, 3) := by decide +kernel
theorem dX9_reads_251 : decode cX9_reads 251 = .ok (.ireturn, 1) := by decide +kernel
theorem dX9_reads_252 : decode cX9_reads 252 = .ok (.aload_n 0, 1) := by decide +kernel
theorem dX9_reads_253 : decode cX9_reads 253 = .ok (.sipush 202, 3) := by decide +kernel
theorem dX9_reads_256 : decode cX9_reads 256 = .ok (.invokevirtual 280, 3) := by decide +kernel
theorem dX9_reads_259 : decode cX9_reads 259 = .ok (.iconst (-1), 1) := by decide +kernel
theorem dX9_reads_260 : decode cX9_reads 260 = .ok (.ireturn, 1) := by decide +kernel
theorem dX9_valueOf_0 : decode cX9_valueOf 0 = .ok (.iload_n 1, 1) := by decide +kernel
theorem dX9_valueOf_1 : decode cX9_valueOf 1 = .ok (.tableswitch 151 97 115 #[137, 151, 151, 103, 151, 151, 151, 151, 125, 151, 151, 151, 151, 149, 131, 151, 151, 97, 91], 91) := by decide +kernel
theorem dX9_valueOf_92 : decode cX9_valueOf 92 = .ok (.aload_n 0, 1) := by decide +kernel
theorem dX9_valueOf_93 : decode cX9_valueOf 93 = .ok (.iload_n 2, 1) := by decide +kernel
theorem dX9_valueOf_94 : decode cX9_valueOf 94 = .ok (.invokevirtual 109, 3) := by decide +kernel
theorem dX9_valueOf_97 : decode cX9_valueOf 97 = .ok (.ireturn, 1) := by decide +kernel
theorem dX9_valueOf_98 : decode cX9_valueOf 98 = .ok (.aload_n 0, 1) := by decide +kernel
theorem dX9_valueOf_99 : decode cX9_valueOf 99 = .ok (.iload_n 2, 1) := by decide +kernel
theorem dX9_valueOf_100 : decode cX9_valueOf 100 = .ok (.invokevirtual 208, 3) := by decide +kernel
theorem dX9_valueOf_103 : decode cX9_valueOf 103 = .ok (.ireturn, 1) := by decide +kernel
theorem dX9_valueOf_104 : decode cX9_valueOf 104 = .ok (.aload_n 0, 1) := by decide +kernel
theorem dX9_valueOf_105 : decode cX9_valueOf 105 = .ok (.getfield 35, 3) := by decide +kernel
theorem dX9_valueOf_108 : decode cX9_valueOf 108 = .ok (.iload_n 2, 1) := by decide +kernel
theorem dX9_valueOf_109 : decode cX9_valueOf 109 = .ok (.iaload, 1) := by decide +kernel
theorem dX9_valueOf_110 : decode cX9_valueOf 110 = .ok (.iconst (-1), 1) := by decide +kernel
theorem dX9_valueOf_111 : decode cX9_valueOf 111 = .ok (.if_icmp .ne 8, 3) := by decide +kernel
theorem dX9_valueOf_114 : decode cX9_valueOf 114 = .ok (.bipush 99, 2) := by decide +kernel
theorem dX9_valueOf_116 : decode cX9_valueOf 116 = .ok (.goto 9, 3) := by decide +kernel
theorem dX9_valueOf_119 : decode cX9_valueOf 119 = .ok (.aload_n 0, 1) := by decide +kernel
theorem dX9_valueOf_120 : decode cX9_valueOf 120 = .ok (.getfield 35, 3) := by decide +kernel
theorem dX9_valueOf_123 : decode cX9_valueOf 123 = .ok (.iload_n 2, 1) := by decide +kernel
theorem dX9_valueOf_124 : decode cX9_valueOf 124 = .ok (.iaload, 1) := by decide +kernel
theorem dX9_valueOf_125 : decode cX9_valueOf 125 = .ok (.ireturn, 1) := by decide +kernel
theorem dX9_valueOf_126 : decode cX9_valueOf 126 = .ok (.aload_n 0, 1) := by decide +kernel
theorem dX9_valueOf_127 : decode cX9_valueOf 127 = .ok (.iload_n 2, 1) := by decide +kernel
theorem dX9_valueOf_128 : decode cX9_valueOf 128 = .ok (.invokevirtual 148, 3) := by decide +kernel
theorem dX9_valueOf_131 : decode cX9_valueOf 131 = .ok (.ireturn, 1) := by decide +kernel
theorem dX9_valueOf_132 : decode cX9_valueOf 132 = .ok (.aload_n 0, 1) := by decide +kernel
theorem dX9_valueOf_133 : decode cX9_valueOf 133 = .ok (.iload_n 2, 1) := by decide +kernel
theorem dX9_valueOf_134 : decode cX9_valueOf 134 = .ok (.invokevirtual 145, 3) := by decide +kernel
theorem dX9_valueOf_137 : decode cX9_valueOf 137 = .ok (.ireturn, 1) := by decide +kernel
theorem dX9_valueOf_138 : decode cX9_valueOf 138 = .ok (.aload_n 0, 1) := by decide +kernel
theorem dX9_valueOf_139 : decode cX9_valueOf 139 = .ok (.getfield 7, 3) := by decide +kernel
theorem dX9_valueOf_142 : decode cX9_valueOf 142 = .ok (.iload_n 2, 1) := by decide +kernel
theorem dX9_valueOf_143 : decode cX9_valueOf 143 = .ok (.invokestatic 103, 3) := by decide +kernel
theorem dX9_valueOf_146 : decode cX9_valueOf 146 = .ok (.iconst 3, 1) := by decide +kernel
theorem dX9_valueOf_147 : decode cX9_valueOf 147 = .ok (.iadd, 1) := by decide +kernel
theorem dX9_valueOf_148 : decode cX9_valueOf 148 = .ok (.iaload, 1) := by decide +kernel
theorem dX9_valueOf_149 : decode cX9_valueOf 149 = .ok (.ireturn, 1) := by decide +kernel
theorem dX9_valueOf_150 : decode cX9_valueOf 150 = .ok (.iload_n 2, 1) := by decide +kernel
theorem dX9_valueOf_151 : decode cX9_valueOf 151 = .ok (.ireturn, 1) := by decide +kernel
theorem dX9_valueOf_152 : decode cX9_valueOf 152 = .ok (.aload_n 0, 1) := by decide +kernel
theorem dX9_valueOf_153 : decode cX9_valueOf 153 = .ok (.getfield 7, 3) := by decide +kernel
theorem dX9_valueOf_156 : decode cX9_valueOf 156 = .ok (.iload_n 2, 1) := by decide +kernel
theorem dX9_valueOf_157 : decode cX9_valueOf 157 = .ok (.invokestatic 103, 3) := by decide +kernel
theorem dX9_valueOf_160 : decode cX9_valueOf 160 = .ok (.iconst 1, 1) := by decide +kernel
theorem dX9_valueOf_161 : decode cX9_valueOf 161 = .ok (.iadd, 1) := by decide +kernel
theorem dX9_valueOf_162 : decode cX9_valueOf 162 = .ok (.iaload, 1) := by decide +kernel
theorem dX9_valueOf_163 : decode cX9_valueOf 163 = .ok (.ireturn, 1) := by decide +kernel
theorem dX9_isSo_0 : decode cX9_isSo 0 = .ok (.aload_n 0, 1) := by decide +kernel
theorem dX9_isSo_1 : decode cX9_isSo 1 = .ok (.getfield 44, 3) := by decide +kernel
theorem dX9_isSo_4 : decode cX9_isSo 4 = .ok (.iload_n 1, 1) := by decide +kernel
theorem dX9_isSo_5 : decode cX9_isSo 5 = .ok (.iaload, 1) := by decide +kernel
theorem dX9_isSo_6 : decode cX9_isSo 6 = .ok (.bipush 42, 2) := by decide +kernel
theorem dX9_isSo_8 : decode cX9_isSo 8 = .ok (.if_icmp .ne 23, 3) := by decide +kernel
theorem dX9_isSo_11 : decode cX9_isSo 11 = .ok (.aload_n 0, 1) := by decide +kernel
theorem dX9_isSo_12 : decode cX9_isSo 12 = .ok (.getfield 7, 3) := by decide +kernel
theorem dX9_isSo_15 : decode cX9_isSo 15 = .ok (.iload_n 2, 1) := by decide +kernel
theorem dX9_isSo_16 : decode cX9_isSo 16 = .ok (.invokestatic 103, 3) := by decide +kernel
theorem dX9_isSo_19 : decode cX9_isSo 19 = .ok (.iconst 4, 1) := by decide +kernel
theorem dX9_isSo_20 : decode cX9_isSo 20 = .ok (.iadd, 1) := by decide +kernel
theorem dX9_isSo_21 : decode cX9_isSo 21 = .ok (.iaload, 1) := by decide +kernel
theorem dX9_isSo_22 : decode cX9_isSo 22 = .ok (.ifCond .eq 7, 3) := by decide +kernel
theorem dX9_isSo_25 : decode cX9_isSo 25 = .ok (.iconst 1, 1) := by decide +kernel
theorem dX9_isSo_26 : decode cX9_isSo 26 = .ok (.goto 4, 3) := by decide +kernel
theorem dX9_isSo_29 : decode cX9_isSo 29 = .ok (.iconst 0, 1) := by decide +kernel
theorem dX9_isSo_30 : decode cX9_isSo 30 = .ok (.ireturn, 1) := by decide +kernel
theorem dX9_isSo_31 : decode cX9_isSo 31 = .ok (.aload_n 0, 1) := by decide +kernel
theorem dX9_isSo_32 : decode cX9_isSo 32 = .ok (.getfield 44, 3) := by decide +kernel
theorem dX9_isSo_35 : decode cX9_isSo 35 = .ok (.iload_n 1, 1) := by decide +kernel
theorem dX9_isSo_36 : decode cX9_isSo 36 = .ok (.iaload, 1) := by decide +kernel
theorem dX9_isSo_37 : decode cX9_isSo 37 = .ok (.bipush 64, 2) := by decide +kernel
theorem dX9_isSo_39 : decode cX9_isSo 39 = .ok (.if_icmp .ne 49, 3) := by decide +kernel
theorem dX9_isSo_42 : decode cX9_isSo 42 = .ok (.aload_n 0, 1) := by decide +kernel
theorem dX9_isSo_43 : decode cX9_isSo 43 = .ok (.getfield 7, 3) := by decide +kernel
theorem dX9_isSo_46 : decode cX9_isSo 46 = .ok (.iload_n 2, 1) := by decide +kernel
theorem dX9_isSo_47 : decode cX9_isSo 47 = .ok (.invokestatic 103, 3) := by decide +kernel
theorem dX9_isSo_50 : decode cX9_isSo 50 = .ok (.iconst 1, 1) := by decide +kernel
theorem dX9_isSo_51 : decode cX9_isSo 51 = .ok (.iadd, 1) := by decide +kernel
theorem dX9_isSo_52 : decode cX9_isSo 52 = .ok (.iaload, 1) := by decide +kernel
theorem dX9_isSo_53 : decode cX9_isSo 53 = .ok (.bipush 10, 2) := by decide +kernel
theorem dX9_isSo_55 : decode cX9_isSo 55 = .ok (.if_icmp .ge 31, 3) := by decide +kernel
theorem dX9_isSo_58 : decode cX9_isSo 58 = .ok (.aload_n 0, 1) := by decide +kernel
theorem dX9_isSo_59 : decode cX9_isSo 59 = .ok (.aload_n 0, 1) := by decide +kernel
theorem dX9_isSo_60 : decode cX9_isSo 60 = .ok (.getfield 7, 3) := by decide +kernel
theorem dX9_isSo_63 : decode cX9_isSo 63 = .ok (.iload_n 2, 1) := by decide +kernel
theorem dX9_isSo_64 : decode cX9_isSo 64 = .ok (.invokestatic 103, 3) := by decide +kernel
theorem dX9_isSo_67 : decode cX9_isSo 67 = .ok (.iconst 1, 1) := by decide +kernel
theorem dX9_isSo_68 : decode cX9_isSo 68 = .ok (.iadd, 1) := by decide +kernel
theorem dX9_isSo_69 : decode cX9_isSo 69 = .ok (.iaload, 1) := by decide +kernel
theorem dX9_isSo_70 : decode cX9_isSo 70 = .ok (.aload_n 0, 1) := by decide +kernel
theorem dX9_isSo_71 : decode cX9_isSo 71 = .ok (.getfield 50, 3) := by decide +kernel
theorem dX9_isSo_74 : decode cX9_isSo 74 = .ok (.iload_n 1, 1) := by decide +kernel
theorem dX9_isSo_75 : decode cX9_isSo 75 = .ok (.iaload, 1) := by decide +kernel
theorem dX9_isSo_76 : decode cX9_isSo 76 = .ok (.invokevirtual 99, 3) := by decide +kernel
theorem dX9_isSo_79 : decode cX9_isSo 79 = .ok (.ifCond .eq 7, 3) := by decide +kernel
theorem dX9_isSo_82 : decode cX9_isSo 82 = .ok (.iconst 1, 1) := by decide +kernel
theorem dX9_isSo_83 : decode cX9_isSo 83 = .ok (.goto 4, 3) := by decide +kernel
theorem dX9_isSo_86 : decode cX9_isSo 86 = .ok (.iconst 0, 1) := by decide +kernel
theorem dX9_isSo_87 : decode cX9_isSo 87 = .ok (.ireturn, 1) := by decide +kernel
theorem dX9_isSo_88 : decode cX9_isSo 88 = .ok (.aload_n 0, 1) := by decide +kernel
theorem dX9_isSo_89 : decode cX9_isSo 89 = .ok (.aload_n 0, 1) := by decide +kernel
theorem dX9_isSo_90 : decode cX9_isSo 90 = .ok (.getfield 44, 3) := by decide +kernel
theorem dX9_isSo_93 : decode cX9_isSo 93 = .ok (.iload_n 1, 1) := by decide +kernel
theorem dX9_isSo_94 : decode cX9_isSo 94 = .ok (.iaload, 1) := by decide +kernel
theorem dX9_isSo_95 : decode cX9_isSo 95 = .ok (.iload_n 2, 1) := by decide +kernel
theorem dX9_isSo_96 : decode cX9_isSo 96 = .ok (.invokevirtual 283, 3) := by decide +kernel
theorem dX9_isSo_99 : decode cX9_isSo 99 = .ok (.istore_n 3, 1) := by decide +kernel
theorem dX9_isSo_100 : decode cX9_isSo 100 = .ok (.aload_n 0, 1) := by decide +kernel
theorem dX9_isSo_101 : decode cX9_isSo 101 = .ok (.getfield 47, 3) := by decide +kernel
theorem dX9_isSo_104 : decode cX9_isSo 104 = .ok (.iload_n 1, 1) := by decide +kernel
theorem dX9_isSo_105 : decode cX9_isSo 105 = .ok (.iaload, 1) := by decide +kernel
theorem dX9_isSo_106 : decode cX9_isSo 106 = .ok (.bipush 60, 2) := by decide +kernel
theorem dX9_isSo_108 : decode cX9_isSo 108 = .ok (.if_icmp .ne 21, 3) := by decide +kernel
theorem dX9_isSo_111 : decode cX9_isSo 111 = .ok (.iload_n 3, 1) := by decide +kernel
theorem dX9_isSo_112 : decode cX9_isSo 112 = .ok (.aload_n 0, 1) := by decide +kernel
theorem dX9_isSo_113 : decode cX9_isSo 113 = .ok (.getfield 50, 3) := by decide +kernel
theorem dX9_isSo_116 : decode cX9_isSo 116 = .ok (.iload_n 1, 1) := by decide +kernel
theorem dX9_isSo_117 : decode cX9_isSo 117 = .ok (.iaload, 1) := by decide +kernel
theorem dX9_isSo_118 : decode cX9_isSo 118 = .ok (.if_icmp .ge 7, 3) := by decide +kernel
theorem dX9_isSo_121 : decode cX9_isSo 121 = .ok (.iconst 1, 1) := by decide +kernel
theorem dX9_isSo_122 : decode cX9_isSo 122 = .ok (.goto 51, 3) := by decide +kernel
theorem dX9_isSo_125 : decode cX9_isSo 125 = .ok (.iconst 0, 1) := by decide +kernel
theorem dX9_isSo_126 : decode cX9_isSo 126 = .ok (.goto 47, 3) := by decide +kernel
theorem dX9_isSo_129 : decode cX9_isSo 129 = .ok (.aload_n 0, 1) := by decide +kernel
theorem dX9_isSo_130 : decode cX9_isSo 130 = .ok (.getfield 47, 3) := by decide +kernel
theorem dX9_isSo_133 : decode cX9_isSo 133 = .ok (.iload_n 1, 1) := by decide +kernel
theorem dX9_isSo_134 : decode cX9_isSo 134 = .ok (.iaload, 1) := by decide +kernel
theorem dX9_isSo_135 : decode cX9_isSo 135 = .ok (.bipush 61, 2) := by decide +kernel
theorem dX9_isSo_137 : decode cX9_isSo 137 = .ok (.if_icmp .ne 21, 3) := by decide +kernel
theorem dX9_isSo_140 : decode cX9_isSo 140 = .ok (.iload_n 3, 1) := by decide +kernel
theorem dX9_isSo_141 : decode cX9_isSo 141 = .ok (.aload_n 0, 1) := by decide +kernel
theorem dX9_isSo_142 : decode cX9_isSo 142 = .ok (.getfield 50, 3) := by decide +kernel
theorem dX9_isSo_145 : decode cX9_isSo 145 = .ok (.iload_n 1, 1) := by decide +kernel
theorem dX9_isSo_146 : decode cX9_isSo 146 = .ok (.iaload, 1) := by decide +kernel
theorem dX9_isSo_147 : decode cX9_isSo 147 = .ok (.if_icmp .ne 7, 3) := by decide +kernel
theorem dX9_isSo_150 : decode cX9_isSo 150 = .ok (.iconst 1, 1) := by decide +kernel
theorem dX9_isSo_151 : decode cX9_isSo 151 = .ok (.goto 22, 3) := by decide +kernel
theorem dX9_isSo_154 : decode cX9_isSo 154 = .ok (.iconst 0, 1) := by decide +kernel
theorem dX9_isSo_155 : decode cX9_isSo 155 = .ok (.goto 18, 3) := by decide +kernel
theorem dX9_isSo_158 : decode cX9_isSo 158 = .ok (.iload_n 3, 1) := by decide +kernel
theorem dX9_isSo_159 : decode cX9_isSo 159 = .ok (.aload_n 0, 1) := by decide +kernel
theorem dX9_isSo_160 : decode cX9_isSo 160 = .ok (.getfield 50, 3) := by decide +kernel
theorem dX9_isSo_163 : decode cX9_isSo 163 = .ok (.iload_n 1, 1) := by decide +kernel
theorem dX9_isSo_164 : decode cX9_isSo 164 = .ok (.iaload, 1) := by decide +kernel
theorem dX9_isSo_165 : decode cX9_isSo 165 = .ok (.if_icmp .le 7, 3) := by decide +kernel
theorem dX9_isSo_168 : decode cX9_isSo 168 = .ok (.iconst 1, 1) := by decide +kernel
theorem dX9_isSo_169 : decode cX9_isSo 169 = .ok (.goto 4, 3) := by decide +kernel
theorem dX9_isSo_172 : decode cX9_isSo 172 = .ok (.iconst 0, 1) := by decide +kernel
theorem dX9_isSo_173 : decode cX9_isSo 173 = .ok (.ireturn, 1) := by decide +kernel
theorem dX9_isTrue_0 : decode cX9_isTrue 0 = .ok (.iconst 0, 1) := by decide +kernel
theorem dX9_isTrue_1 : decode cX9_isTrue 1 = .ok (.istore_n 2, 1) := by decide +kernel
theorem dX9_isTrue_2 : decode cX9_isTrue 2 = .ok (.iconst 0, 1) := by decide +kernel
theorem dX9_isTrue_3 : decode cX9_isTrue 3 = .ok (.istore_n 3, 1) := by decide +kernel
theorem dX9_isTrue_4 : decode cX9_isTrue 4 = .ok (.iload_n 3, 1) := by decide +kernel
theorem dX9_isTrue_5 : decode cX9_isTrue 5 = .ok (.aload_n 0, 1) := by decide +kernel
theorem dX9_isTrue_6 : decode cX9_isTrue 6 = .ok (.getfield 251, 3) := by decide +kernel
theorem dX9_isTrue_9 : decode cX9_isTrue 9 = .ok (.if_icmp .ge 150, 3) := by decide +kernel
theorem dX9_isTrue_12 : decode cX9_isTrue 12 = .ok (.aload_n 0, 1) := by decide +kernel
theorem dX9_isTrue_13 : decode cX9_isTrue 13 = .ok (.getfield 44, 3) := by decide +kernel
theorem dX9_isTrue_16 : decode cX9_isTrue 16 = .ok (.iload_n 3, 1) := by decide +kernel
theorem dX9_isTrue_17 : decode cX9_isTrue 17 = .ok (.iaload, 1) := by decide +kernel
theorem dX9_isTrue_18 : decode cX9_isTrue 18 = .ok (.istore 4, 2) := by decide +kernel
theorem dX9_isTrue_20 : decode cX9_isTrue 20 = .ok (.iload 4, 2) := by decide +kernel
theorem dX9_isTrue_22 : decode cX9_isTrue 22 = .ok (.sipush 200, 3) := by decide +kernel
theorem dX9_isTrue_25 : decode cX9_isTrue 25 = .ok (.if_icmp .ge 21, 3) := by decide +kernel
theorem dX9_isTrue_28 : decode cX9_isTrue 28 = .ok (.aload_n 0, 1) := by decide +kernel
theorem dX9_isTrue_29 : decode cX9_isTrue 29 = .ok (.getfield 56, 3) := by decide +kernel
theorem dX9_isTrue_32 : decode cX9_isTrue 32 = .ok (.iload_n 2, 1) := by decide +kernel
theorem dX9_isTrue_33 : decode cX9_isTrue 33 = .ok (.aload_n 0, 1) := by decide +kernel
theorem dX9_isTrue_34 : decode cX9_isTrue 34 = .ok (.iload_n 3, 1) := by decide +kernel
theorem dX9_isTrue_35 : decode cX9_isTrue 35 = .ok (.iload_n 1, 1) := by decide +kernel
theorem dX9_isTrue_36 : decode cX9_isTrue 36 = .ok (.invokevirtual 286, 3) := by decide +kernel
theorem dX9_isTrue_39 : decode cX9_isTrue 39 = .ok (.bastore, 1) := by decide +kernel
theorem dX9_isTrue_40 : decode cX9_isTrue 40 = .ok (.iinc 2 1, 3) := by decide +kernel
theorem dX9_isTrue_43 : decode cX9_isTrue 43 = .ok (.goto 110, 3) := by decide +kernel
theorem dX9_isTrue_46 : decode cX9_isTrue 46 = .ok (.iload 4, 2) := by decide +kernel
theorem dX9_isTrue_48 : decode cX9_isTrue 48 = .ok (.sipush 200, 3) := by decide +kernel
theorem dX9_isTrue_51 : decode cX9_isTrue 51 = .ok (.if_icmp .ne 30, 3) := by decide +kernel
theorem dX9_isTrue_54 : decode cX9_isTrue 54 = .ok (.aload_n 0, 1) := by decide +kernel
theorem dX9_isTrue_55 : decode cX9_isTrue 55 = .ok (.getfield 56, 3) := by decide +kernel
theorem dX9_isTrue_58 : decode cX9_isTrue 58 = .ok (.iload_n 2, 1) := by decide +kernel
theorem dX9_isTrue_59 : decode cX9_isTrue 59 = .ok (.iconst 1, 1) := by decide +kernel
theorem dX9_isTrue_60 : decode cX9_isTrue 60 = .ok (.isub, 1) := by decide +kernel
theorem dX9_isTrue_61 : decode cX9_isTrue 61 = .ok (.aload_n 0, 1) := by decide +kernel
theorem dX9_isTrue_62 : decode cX9_isTrue 62 = .ok (.getfield 56, 3) := by decide +kernel
theorem dX9_isTrue_65 : decode cX9_isTrue 65 = .ok (.iload_n 2, 1) := by decide +kernel
theorem dX9_isTrue_66 : decode cX9_isTrue 66 = .ok (.iconst 1, 1) := by decide +kernel
theorem dX9_isTrue_67 : decode cX9_isTrue 67 = .ok (.isub, 1) := by decide +kernel
theorem dX9_isTrue_68 : decode cX9_isTrue 68 = .ok (.baload, 1) := by decide +kernel
theorem dX9_isTrue_69 : decode cX9_isTrue 69 = .ok (.ifCond .ne 7, 3) := by decide +kernel
theorem dX9_isTrue_72 : decode cX9_isTrue 72 = .ok (.iconst 1, 1) := by decide +kernel
theorem dX9_isTrue_73 : decode cX9_isTrue 73 = .ok (.goto 4, 3) := by decide +kernel
theorem dX9_isTrue_76 : decode cX9_isTrue 76 = .ok (.iconst 0, 1) := by decide +kernel
theorem dX9_isTrue_77 : decode cX9_isTrue 77 = .ok (.bastore, 1) := by decide +kernel
theorem dX9_isTrue_78 : decode cX9_isTrue 78 = .ok (.goto 75, 3) := by decide +kernel
theorem dX9_isTrue_81 : decode cX9_isTrue 81 = .ok (.iinc 2 (-1), 3) := by decide +kernel
theorem dX9_isTrue_84 : decode cX9_isTrue 84 = .ok (.aload_n 0, 1) := by decide +kernel
theorem dX9_isTrue_85 : decode cX9_isTrue 85 = .ok (.getfield 56, 3) := by decide +kernel
theorem dX9_isTrue_88 : decode cX9_isTrue 88 = .ok (.iload_n 2, 1) := by decide +kernel
theorem dX9_isTrue_89 : decode cX9_isTrue 89 = .ok (.iconst 1, 1) := by decide +kernel
theorem dX9_isTrue_90 : decode cX9_isTrue 90 = .ok (.isub, 1) := by decide +kernel
theorem dX9_isTrue_91 : decode cX9_isTrue 91 = .ok (.iload 4, 2) := by decide +kernel
theorem dX9_isTrue_93 : decode cX9_isTrue 93 = .ok (.sipush 201, 3) := by decide +kernel
theorem dX9_isTrue_96 : decode cX9_isTrue 96 = .ok (.if_icmp .ne 31, 3) := by decide +kernel
theorem dX9_isTrue_99 : decode cX9_isTrue 99 = .ok (.aload_n 0, 1) := by decide +kernel
theorem dX9_isTrue_100 : decode cX9_isTrue 100 = .ok (.getfield 56, 3) := by decide +kernel
theorem dX9_isTrue_103 : decode cX9_isTrue 103 = .ok (.iload_n 2, 1) := by decide +kernel
theorem dX9_isTrue_104 : decode cX9_isTrue 104 = .ok (.iconst 1, 1) := by decide +kernel
theorem dX9_isTrue_105 : decode cX9_isTrue 105 = .ok (.isub, 1) := by decide +kernel
theorem dX9_isTrue_106 : decode cX9_isTrue 106 = .ok (.baload, 1) := by decide +kernel
theorem dX9_isTrue_107 : decode cX9_isTrue 107 = .ok (.ifCond .eq 16, 3) := by decide +kernel
theorem dX9_isTrue_110 : decode cX9_isTrue 110 = .ok (.aload_n 0, 1) := by decide +kernel
theorem dX9_isTrue_111 : decode cX9_isTrue 111 = .ok (.getfield 56, 3) := by decide +kernel
theorem dX9_isTrue_114 : decode cX9_isTrue 114 = .ok (.iload_n 2, 1) := by decide +kernel
theorem dX9_isTrue_115 : decode cX9_isTrue 115 = .ok (.baload, 1) := by decide +kernel
theorem dX9_isTrue_116 : decode cX9_isTrue 116 = .ok (.ifCond .eq 7, 3) := by decide +kernel
theorem dX9_isTrue_119 : decode cX9_isTrue 119 = .ok (.iconst 1, 1) := by decide +kernel
theorem dX9_isTrue_120 : decode cX9_isTrue 120 = .ok (.goto 32, 3) := by decide +kernel
theorem dX9_isTrue_123 : decode cX9_isTrue 123 = .ok (.iconst 0, 1) := by decide +kernel
theorem dX9_isTrue_124 : decode cX9_isTrue 124 = .ok (.goto 28, 3) := by decide +kernel
theorem dX9_isTrue_127 : decode cX9_isTrue 127 = .ok (.aload_n 0, 1) := by decide +kernel
theorem dX9_isTrue_128 : decode cX9_isTrue 128 = .ok (.getfield 56, 3) := by decide +kernel
theorem dX9_isTrue_131 : decode cX9_isTrue 131 = .ok (.iload_n 2, 1) := by decide +kernel
theorem dX9_isTrue_132 : decode cX9_isTrue 132 = .ok (.iconst 1, 1) := by decide +kernel
theorem dX9_isTrue_133 : decode cX9_isTrue 133 = .ok (.isub, 1) := by decide +kernel
theorem dX9_isTrue_134 : decode cX9_isTrue 134 = .ok (.baload, 1) := by decide +kernel
theorem dX9_isTrue_135 : decode cX9_isTrue 135 = .ok (.ifCond .ne 12, 3) := by decide +kernel
theorem dX9_isTrue_138 : decode cX9_isTrue 138 = .ok (.aload_n 0, 1) := by decide +kernel
theorem dX9_isTrue_139 : decode cX9_isTrue 139 = .ok (.getfield 56, 3) := by decide +kernel
theorem dX9_isTrue_142 : decode cX9_isTrue 142 = .ok (.iload_n 2, 1) := by decide +kernel
theorem dX9_isTrue_143 : decode cX9_isTrue 143 = .ok (.baload, 1) := by decide +kernel
theorem dX9_isTrue_144 : decode cX9_isTrue 144 = .ok (.ifCond .eq 7, 3) := by decide +kernel
theorem dX9_isTrue_147 : decode cX9_isTrue 147 = .ok (.iconst 1, 1) := by decide +kernel
theorem dX9_isTrue_148 : decode cX9_isTrue 148 = .ok (.goto 4, 3) := by decide +kernel
theorem dX9_isTrue_151 : decode cX9_isTrue 151 = .ok (.iconst 0, 1) := by decide +kernel
theorem dX9_isTrue_152 : decode cX9_isTrue 152 = .ok (.bastore, 1) := by decide +kernel
theorem dX9_isTrue_153 : decode cX9_isTrue 153 = .ok (.iinc 3 1, 3) := by decide +kernel
theorem dX9_isTrue_156 : decode cX9_isTrue 156 = .ok (.goto (-152), 3) := by decide +kernel
theorem dX9_isTrue_159 : decode cX9_isTrue 159 = .ok (.aload_n 0, 1) := by decide +kernel
theorem dX9_isTrue_160 : decode cX9_isTrue 160 = .ok (.getfield 56, 3) := by decide +kernel
theorem dX9_isTrue_163 : decode cX9_isTrue 163 = .ok (.iconst 0, 1) := by decide +kernel
theorem dX9_isTrue_164 : decode cX9_isTrue 164 = .ok (.baload, 1) := by decide +kernel
theorem dX9_isTrue_165 : decode cX9_isTrue 165 = .ok (.ireturn, 1) := by decide +kernel
theorem dX9_laysMatches_0 : decode cX9_laysMatches 0 = .ok (.aload_n 0, 1) := by decide +kernel
theorem dX9_laysMatches_1 : decode cX9_laysMatches 1 = .ok (.iconst 0, 1) := by decide +kernel
theorem dX9_laysMatches_2 : decode cX9_laysMatches 2 = .ok (.putfield 63, 3) := by decide +kernel
theorem dX9_laysMatches_5 : decode cX9_laysMatches 5 = .ok (.aload_n 0, 1) := by decide +kernel
theorem dX9_laysMatches_6 : decode cX9_laysMatches 6 = .ok (.invokevirtual 289, 3) := by decide +kernel
theorem dX9_laysMatches_9 : decode cX9_laysMatches 9 = .ok (.istore_n 1, 1) := by decide +kernel
theorem dX9_laysMatches_10 : decode cX9_laysMatches 10 = .ok (.iload_n 1, 1) := by decide +kernel
theorem dX9_laysMatches_11 : decode cX9_laysMatches 11 = .ok (.iconst (-1), 1) := by decide +kernel
theorem dX9_laysMatches_12 : decode cX9_laysMatches 12 = .ok (.if_icmp .eq 8, 3) := by decide +kernel
theorem dX9_laysMatches_15 : decode cX9_laysMatches 15 = .ok (.bipush (-10), 2) := by decide +kernel
theorem dX9_laysMatches_17 : decode cX9_laysMatches 17 = .ok (.iload_n 1, 1) := by decide +kernel
theorem dX9_laysMatches_18 : decode cX9_laysMatches 18 = .ok (.isub, 1) := by decide +kernel
theorem dX9_laysMatches_19 : decode cX9_laysMatches 19 = .ok (.ireturn, 1) := by decide +kernel
theorem dX9_laysMatches_20 : decode cX9_laysMatches 20 = .ok (.aload_n 0, 1) := by decide +kernel
theorem dX9_laysMatches_21 : decode cX9_laysMatches 21 = .ok (.invokevirtual 198, 3) := by decide +kernel
theorem dX9_laysMatches_24 : decode cX9_laysMatches 24 = .ok (.aload_n 0, 1) := by decide +kernel
theorem dX9_laysMatches_25 : decode cX9_laysMatches 25 = .ok (.invokevirtual 191, 3) := by decide +kernel
theorem dX9_laysMatches_28 : decode cX9_laysMatches 28 = .ok (.aload_n 0, 1) := by decide +kernel
theorem dX9_laysMatches_29 : decode cX9_laysMatches 29 = .ok (.lconst 0, 1) := by decide +kernel
theorem dX9_laysMatches_30 : decode cX9_laysMatches 30 = .ok (.putfield 292, 3) := by decide +kernel
theorem dX9_laysMatches_33 : decode cX9_laysMatches 33 = .ok (.iconst 0, 1) := by decide +kernel
theorem dX9_laysMatches_34 : decode cX9_laysMatches 34 = .ok (.istore_n 2, 1) := by decide +kernel
theorem dX9_laysMatches_35 : decode cX9_laysMatches 35 = .ok (.iload_n 2, 1) := by decide +kernel
theorem dX9_laysMatches_36 : decode cX9_laysMatches 36 = .ok (.bipush 40, 2) := by decide +kernel
theorem dX9_laysMatches_38 : decode cX9_laysMatches 38 = .ok (.if_icmp .ge 41, 3) := by decide +kernel
theorem dX9_laysMatches_41 : decode cX9_laysMatches 41 = .ok (.aload_n 0, 1) := by decide +kernel
theorem dX9_laysMatches_42 : decode cX9_laysMatches 42 = .ok (.dup, 1) := by decide +kernel
theorem dX9_laysMatches_43 : decode cX9_laysMatches 43 = .ok (.getfield 292, 3) := by decide +kernel
theorem dX9_laysMatches_46 : decode cX9_laysMatches 46 = .ok (.aload_n 0, 1) := by decide +kernel
theorem dX9_laysMatches_47 : decode cX9_laysMatches 47 = .ok (.iload_n 2, 1) := by decide +kernel
theorem dX9_laysMatches_48 : decode cX9_laysMatches 48 = .ok (.invokevirtual 106, 3) := by decide +kernel
theorem dX9_laysMatches_51 : decode cX9_laysMatches 51 = .ok (.ifCond .eq 17, 3) := by decide +kernel
theorem dX9_laysMatches_54 : decode cX9_laysMatches 54 = .ok (.aload_n 0, 1) := by decide +kernel
theorem dX9_laysMatches_55 : decode cX9_laysMatches 55 = .ok (.iload_n 2, 1) := by decide +kernel
theorem dX9_laysMatches_56 : decode cX9_laysMatches 56 = .ok (.invokevirtual 295, 3) := by decide +kernel
theorem dX9_laysMatches_59 : decode cX9_laysMatches 59 = .ok (.ifCond .eq 9, 3) := by decide +kernel
theorem dX9_laysMatches_62 : decode cX9_laysMatches 62 = .ok (.lconst 1, 1) := by decide +kernel
theorem dX9_laysMatches_63 : decode cX9_laysMatches 63 = .ok (.iload_n 2, 1) := by decide +kernel
theorem dX9_laysMatches_64 : decode cX9_laysMatches 64 = .ok (.lshl, 1) := by decide +kernel
theorem dX9_laysMatches_65 : decode cX9_laysMatches 65 = .ok (.goto 4, 3) := by decide +kernel
theorem dX9_laysMatches_68 : decode cX9_laysMatches 68 = .ok (.lconst 0, 1) := by decide +kernel
theorem dX9_laysMatches_69 : decode cX9_laysMatches 69 = .ok (.lor, 1) := by decide +kernel
theorem dX9_laysMatches_70 : decode cX9_laysMatches 70 = .ok (.putfield 292, 3) := by decide +kernel
theorem dX9_laysMatches_73 : decode cX9_laysMatches 73 = .ok (.iinc 2 1, 3) := by decide +kernel
theorem dX9_laysMatches_76 : decode cX9_laysMatches 76 = .ok (.goto (-41), 3) := by decide +kernel
theorem dX9_laysMatches_79 : decode cX9_laysMatches 79 = .ok (.iconst 0, 1) := by decide +kernel
theorem dX9_laysMatches_80 : decode cX9_laysMatches 80 = .ok (.ireturn, 1) := by decide +kernel
theorem dX9_matches_0 : decode cX9_matches 0 = .ok (.aload_n 0, 1) := by decide +kernel
theorem dX9_matches_1 : decode cX9_matches 1 = .ok (.invokevirtual 298, 3) := by decide +kernel
theorem dX9_matches_4 : decode cX9_matches 4 = .ok (.istore_n 1, 1) := by decide +kernel
theorem dX9_matches_5 : decode cX9_matches 5 = .ok (.iload_n 1, 1) := by decide +kernel
theorem dX9_matches_6 : decode cX9_matches 6 = .ok (.ifCond .ge 7, 3) := by decide +kernel
theorem dX9_matches_9 : decode cX9_matches 9 = .ok (.iload_n 1, 1) := by decide +kernel
theorem dX9_matches_10 : decode cX9_matches 10 = .ok (.goto 10, 3) := by decide +kernel
theorem dX9_matches_13 : decode cX9_matches 13 = .ok (.aload_n 0, 1) := by decide +kernel
theorem dX9_matches_14 : decode cX9_matches 14 = .ok (.getfield 292, 3) := by decide +kernel
theorem dX9_matches_17 : decode cX9_matches 17 = .ok (.invokestatic 211, 3) := by decide +kernel
theorem dX9_matches_20 : decode cX9_matches 20 = .ok (.ireturn, 1) := by decide +kernel
theorem dX9_matchAt_0 : decode cX9_matchAt 0 = .ok (.aload_n 0, 1) := by decide +kernel
theorem dX9_matchAt_1 : decode cX9_matchAt 1 = .ok (.invokevirtual 298, 3) := by decide +kernel
theorem dX9_matchAt_4 : decode cX9_matchAt 4 = .ok (.istore_n 2, 1) := by decide +kernel
theorem dX9_matchAt_5 : decode cX9_matchAt 5 = .ok (.iload_n 2, 1) := by decide +kernel
theorem dX9_matchAt_6 : decode cX9_matchAt 6 = .ok (.ifCond .ge 5, 3) := by decide +kernel
theorem dX9_matchAt_9 : decode cX9_matchAt 9 = .ok (.iload_n 2, 1) := by decide +kernel
theorem dX9_matchAt_10 : decode cX9_matchAt 10 = .ok (.ireturn, 1) := by decide +kernel
theorem dX9_matchAt_11 : decode cX9_matchAt 11 = .ok (.iconst 0, 1) := by decide +kernel
theorem dX9_matchAt_12 : decode cX9_matchAt 12 = .ok (.istore_n 3, 1) := by decide +kernel
theorem dX9_matchAt_13 : decode cX9_matchAt 13 = .ok (.iconst 0, 1) := by decide +kernel
theorem dX9_matchAt_14 : decode cX9_matchAt 14 = .ok (.istore 4, 2) := by decide +kernel
theorem dX9_matchAt_16 : decode cX9_matchAt 16 = .ok (.iload 4, 2) := by decide +kernel
theorem dX9_matchAt_18 : decode cX9_matchAt 18 = .ok (.bipush 40, 2) := by decide +kernel
theorem dX9_matchAt_20 : decode cX9_matchAt 20 = .ok (.if_icmp .ge 34, 3) := by decide +kernel
theorem dX9_matchAt_23 : decode cX9_matchAt 23 = .ok (.aload_n 0, 1) := by decide +kernel
theorem dX9_matchAt_24 : decode cX9_matchAt 24 = .ok (.getfield 292, 3) := by decide +kernel
theorem dX9_matchAt_27 : decode cX9_matchAt 27 = .ok (.iload 4, 2) := by decide +kernel
theorem dX9_matchAt_29 : decode cX9_matchAt 29 = .ok (.lshr, 1) := by decide +kernel
theorem dX9_matchAt_30 : decode cX9_matchAt 30 = .ok (.lconst 1, 1) := by decide +kernel
theorem dX9_matchAt_31 : decode cX9_matchAt 31 = .ok (.land, 1) := by decide +kernel
theorem dX9_matchAt_32 : decode cX9_matchAt 32 = .ok (.lconst 1, 1) := by decide +kernel
theorem dX9_matchAt_33 : decode cX9_matchAt 33 = .ok (.lcmp, 1) := by decide +kernel
theorem dX9_matchAt_34 : decode cX9_matchAt 34 = .ok (.ifCond .ne 14, 3) := by decide +kernel
theorem dX9_matchAt_37 : decode cX9_matchAt 37 = .ok (.iload_n 3, 1) := by decide +kernel
theorem dX9_matchAt_38 : decode cX9_matchAt 38 = .ok (.iload_n 1, 1) := by decide +kernel
theorem dX9_matchAt_39 : decode cX9_matchAt 39 = .ok (.if_icmp .ne 6, 3) := by decide +kernel
theorem dX9_matchAt_42 : decode cX9_matchAt 42 = .ok (.iload 4, 2) := by decide +kernel
theorem dX9_matchAt_44 : decode cX9_matchAt 44 = .ok (.ireturn, 1) := by decide +kernel
theorem dX9_matchAt_45 : decode cX9_matchAt 45 = .ok (.iinc 3 1, 3) := by decide +kernel
theorem dX9_matchAt_48 : decode cX9_matchAt 48 = .ok (.iinc 4 1, 3) := by decide +kernel
theorem dX9_matchAt_51 : decode cX9_matchAt 51 = .ok (.goto (-35), 3) := by decide +kernel
theorem dX9_matchAt_54 : decode cX9_matchAt 54 = .ok (.iconst (-1), 1) := by decide +kernel
theorem dX9_matchAt_55 : decode cX9_matchAt 55 = .ok (.ireturn, 1) := by decide +kernel
theorem lmX9_224 : Cond.methodLink RX9 224 yX9_groupSet ∈ hb_wl := hb_w 1709 (by decide +kernel) (by decide +kernel)
theorem lmX9_221 : Cond.methodLink RX9 221 yX9_isGroup ∈ hb_wl := hb_w 1705 (by decide +kernel) (by decide +kernel)
theorem lmJxe99ae_122 : Cond.methodLink RJxe99ae 122 yJxe99ae_isNaN_b9ae7 ∈ hb_wl := hb_w 1720 (by decide +kernel) (by decide +kernel)
theorem wd_1726 : (Jvm.Cond.constantLong "java/lang/Double" (137 : Nat) (9221120237041090560 : Int64)) ∈ hb_wl := hb_w 1726 (by decide +kernel) (by decide +kernel)
theorem wd_1723 : (Jvm.Cond.methodLink "java/lang/Double" (134 : Nat) ({ cls := "java/lang/Double", name := "doubleToRawLongBits", desc := "(D)J" } : Jvm.MethodName)) ∈ hb_wl := hb_w 1723 (by decide +kernel) (by decide +kernel)
theorem wd_1725 : (Jvm.Cond.native ({ cls := "java/lang/Double", name := "doubleToRawLongBits", desc := "(D)J" } : Jvm.MethodName)) ∈ hb_wl := hb_w 1725 (by decide +kernel) (by decide +kernel)
theorem wd_1724 : (Jvm.Cond.static ({ cls := "java/lang/Double", name := "doubleToRawLongBits", desc := "(D)J" } : Jvm.MethodName)) ∈ hb_wl := hb_w 1724 (by decide +kernel) (by decide +kernel)
theorem wd_22 : (Jvm.Cond.initialized "java/lang/Double") ∈ hb_wl := hb_w 22 (by decide +kernel) (by decide +kernel)
theorem lmX9_228 : Cond.methodLink RX9 228 yJxe99ae_doubleToLongBits_ccdee ∈ hb_wl := hb_w 1717 (by decide +kernel) (by decide +kernel)
theorem lmJxf58ca_59 : Cond.methodLink RJxf58ca 59 yJxf58ca_isNaN_12338 ∈ hb_wl := hb_w 1734 (by decide +kernel) (by decide +kernel)
theorem wd_1740 : (Jvm.Cond.constant "java/lang/Float" (77 : Nat) (2143289344 : Int32)) ∈ hb_wl := hb_w 1740 (by decide +kernel) (by decide +kernel)
theorem wd_1737 : (Jvm.Cond.methodLink "java/lang/Float" (74 : Nat) ({ cls := "java/lang/Float", name := "floatToRawIntBits", desc := "(F)I" } : Jvm.MethodName)) ∈ hb_wl := hb_w 1737 (by decide +kernel) (by decide +kernel)
theorem wd_1739 : (Jvm.Cond.native ({ cls := "java/lang/Float", name := "floatToRawIntBits", desc := "(F)I" } : Jvm.MethodName)) ∈ hb_wl := hb_w 1739 (by decide +kernel) (by decide +kernel)
theorem wd_1738 : (Jvm.Cond.static ({ cls := "java/lang/Float", name := "floatToRawIntBits", desc := "(F)I" } : Jvm.MethodName)) ∈ hb_wl := hb_w 1738 (by decide +kernel) (by decide +kernel)
theorem wd_23 : (Jvm.Cond.initialized "java/lang/Float") ∈ hb_wl := hb_w 23 (by decide +kernel) (by decide +kernel)
theorem lmX9_234 : Cond.methodLink RX9 234 yJxf58ca_floatToIntBits_5c35a ∈ hb_wl := hb_w 1731 (by decide +kernel) (by decide +kernel)
theorem wd_1753 : (Jvm.Cond.constantLong "HeapBrowserModel" (240 : Nat) (100 : Int64)) ∈ hb_wl := hb_w 1753 (by decide +kernel) (by decide +kernel)
theorem lmX9_242 : Cond.methodLink RX9 242 yX9_isHeavy ∈ hb_wl := hb_w 1749 (by decide +kernel) (by decide +kernel)
theorem lmX9_245 : Cond.methodLink RX9 245 yX9_isSuspect ∈ hb_wl := hb_w 1745 (by decide +kernel) (by decide +kernel)
theorem lkX9_19 : hb_lkF RX9 19 9 5 := ⟨RX9, TX9, 29, rfl, by decide, rfl, Or.inl (hb_w 1329 (by decide +kernel) (by decide +kernel))⟩
theorem lkX9_248 : hb_lkF RX9 248 9 6 := ⟨RX9, TX9, 29, rfl, by decide, rfl, Or.inl (hb_w 1330 (by decide +kernel) (by decide +kernel))⟩
theorem lpX9_append_248 : hb_lkP yX9_append 248 9 6 := ⟨RX9, TX9, 29, rfl, by decide, rfl, Or.inl ⟨rfl, Or.inl (hb_w 1330 (by decide +kernel) (by decide +kernel))⟩⟩
theorem lpX9_clearText_63 : hb_lkP yX9_clearText 63 9 4 := ⟨RX9, TX9, 29, rfl, by decide, rfl, Or.inl ⟨rfl, Or.inl (hb_w 1328 (by decide +kernel) (by decide +kernel))⟩⟩
theorem lpX9_clearText_248 : hb_lkP yX9_clearText 248 9 6 := ⟨RX9, TX9, 29, rfl, by decide, rfl, Or.inl ⟨rfl, Or.inl (hb_w 1330 (by decide +kernel) (by decide +kernel))⟩⟩
theorem lkX9_44 : hb_lkF RX9 44 9 16 := ⟨RX9, TX9, 29, rfl, by decide, rfl, Or.inl (hb_w 1340 (by decide +kernel) (by decide +kernel))⟩
theorem lkX9_251 : hb_lkF RX9 251 9 19 := ⟨RX9, TX9, 29, rfl, by decide, rfl, Or.inl (hb_w 1343 (by decide +kernel) (by decide +kernel))⟩
theorem lkX9_47 : hb_lkF RX9 47 9 17 := ⟨RX9, TX9, 29, rfl, by decide, rfl, Or.inl (hb_w 1341 (by decide +kernel) (by decide +kernel))⟩
theorem lkX9_50 : hb_lkF RX9 50 9 18 := ⟨RX9, TX9, 29, rfl, by decide, rfl, Or.inl (hb_w 1342 (by decide +kernel) (by decide +kernel))⟩
theorem lpX9_gives_251 : hb_lkP yX9_gives 251 9 19 := ⟨RX9, TX9, 29, rfl, by decide, rfl, Or.inl ⟨rfl, Or.inl (hb_w 1343 (by decide +kernel) (by decide +kernel))⟩⟩
theorem lkX9_53 : hb_lkF RX9 53 9 20 := ⟨RX9, TX9, 29, rfl, by decide, rfl, Or.inl (hb_w 1344 (by decide +kernel) (by decide +kernel))⟩
theorem lkX9_254 : hb_lkF RX9 254 9 21 := ⟨RX9, TX9, 29, rfl, by decide, rfl, Or.inl (hb_w 1345 (by decide +kernel) (by decide +kernel))⟩
theorem lpX9_waits_254 : hb_lkP yX9_waits 254 9 21 := ⟨RX9, TX9, 29, rfl, by decide, rfl, Or.inl ⟨rfl, Or.inl (hb_w 1345 (by decide +kernel) (by decide +kernel))⟩⟩
theorem lpX9_comesOut_254 : hb_lkP yX9_comesOut 254 9 21 := ⟨RX9, TX9, 29, rfl, by decide, rfl, Or.inl ⟨rfl, Or.inl (hb_w 1345 (by decide +kernel) (by decide +kernel))⟩⟩
theorem lmX9_257 : Cond.methodLink RX9 257 yX9_gives ∈ hb_wl := hb_w 1790 (by decide +kernel) (by decide +kernel)
theorem lpX9_unit_264 : hb_lkP yX9_unit 264 9 22 := ⟨RX9, TX9, 29, rfl, by decide, rfl, Or.inl ⟨rfl, Or.inl (hb_w 1346 (by decide +kernel) (by decide +kernel))⟩⟩
theorem lmX9_261 : Cond.methodLink RX9 261 yX9_letter ∈ hb_wl := hb_w 1786 (by decide +kernel) (by decide +kernel)
theorem lmX9_267 : Cond.methodLink RX9 267 yX9_isDigit ∈ hb_wl := hb_w 1794 (by decide +kernel) (by decide +kernel)
theorem lmX9_270 : Cond.methodLink RX9 270 yX9_isValue ∈ hb_wl := hb_w 1797 (by decide +kernel) (by decide +kernel)
theorem lmX9_273 : Cond.methodLink RX9 273 yX9_waits ∈ hb_wl := hb_w 1778 (by decide +kernel) (by decide +kernel)
theorem lmX9_280 : Cond.methodLink RX9 280 yX9_comesOut ∈ hb_wl := hb_w 1800 (by decide +kernel) (by decide +kernel)
theorem lpX9_reads_254 : hb_lkP yX9_reads 254 9 21 := ⟨RX9, TX9, 29, rfl, by decide, rfl, Or.inl ⟨rfl, Or.inl (hb_w 1345 (by decide +kernel) (by decide +kernel))⟩⟩
theorem lmX9_277 : Cond.methodLink RX9 277 yX9_unit ∈ hb_wl := hb_w 1782 (by decide +kernel) (by decide +kernel)
theorem lkX9_264 : hb_lkF RX9 264 9 22 := ⟨RX9, TX9, 29, rfl, by decide, rfl, Or.inl (hb_w 1346 (by decide +kernel) (by decide +kernel))⟩
theorem lpX9_reads_251 : hb_lkP yX9_reads 251 9 19 := ⟨RX9, TX9, 29, rfl, by decide, rfl, Or.inl ⟨rfl, Or.inl (hb_w 1343 (by decide +kernel) (by decide +kernel))⟩⟩
theorem lmX9_283 : Cond.methodLink RX9 283 yX9_valueOf ∈ hb_wl := hb_w 1812 (by decide +kernel) (by decide +kernel)
theorem lkX9_56 : hb_lkF RX9 56 9 23 := ⟨RX9, TX9, 29, rfl, by decide, rfl, Or.inl (hb_w 1347 (by decide +kernel) (by decide +kernel))⟩
theorem lmX9_286 : Cond.methodLink RX9 286 yX9_isSo ∈ hb_wl := hb_w 1808 (by decide +kernel) (by decide +kernel)
theorem lpX9_laysMatches_292 : hb_lkP yX9_laysMatches 292 9 24 := ⟨RX9, TX9, 29, rfl, by decide, rfl, Or.inl ⟨rfl, Or.inl (hb_w 1348 (by decide +kernel) (by decide +kernel))⟩⟩
theorem lkX9_292 : hb_lkF RX9 292 9 24 := ⟨RX9, TX9, 29, rfl, by decide, rfl, Or.inl (hb_w 1348 (by decide +kernel) (by decide +kernel))⟩
theorem lmX9_295 : Cond.methodLink RX9 295 yX9_isTrue ∈ hb_wl := hb_w 1804 (by decide +kernel) (by decide +kernel)
theorem lpX9_laysMatches_63 : hb_lkP yX9_laysMatches 63 9 4 := ⟨RX9, TX9, 29, rfl, by decide, rfl, Or.inl ⟨rfl, Or.inl (hb_w 1328 (by decide +kernel) (by decide +kernel))⟩⟩
theorem lmX9_289 : Cond.methodLink RX9 289 yX9_reads ∈ hb_wl := hb_w 1774 (by decide +kernel) (by decide +kernel)
theorem lmX9_298 : Cond.methodLink RX9 298 yX9_laysMatches ∈ hb_wl := hb_w 1770 (by decide +kernel) (by decide +kernel)
