theorem dX8_init_0 : decode cX8_init 0 = .ok (.aload_n 0, 1) := by decide +kernel
theorem dX8_init_1 : decode cX8_init 1 = .ok (.invokespecial 1, 3) := by decide +kernel
theorem dX8_init_4 : decode cX8_init 4 = .ok (.aload_n 0, 1) := by decide +kernel
theorem dX8_init_5 : decode cX8_init 5 = .ok (.new 7, 3) := by decide +kernel
theorem dX8_init_8 : decode cX8_init 8 = .ok (.dup, 1) := by decide +kernel
theorem dX8_init_9 : decode cX8_init 9 = .ok (.invokespecial 9, 3) := by decide +kernel
theorem dX8_init_12 : decode cX8_init 12 = .ok (.putfield 10, 3) := by decide +kernel
theorem dX8_init_15 : decode cX8_init 15 = .ok (.aload_n 0, 1) := by decide +kernel
theorem dX8_init_16 : decode cX8_init 16 = .ok (.new 16, 3) := by decide +kernel
theorem dX8_init_19 : decode cX8_init 19 = .ok (.dup, 1) := by decide +kernel
theorem dX8_init_20 : decode cX8_init 20 = .ok (.aload_n 0, 1) := by decide +kernel
theorem dX8_init_21 : decode cX8_init 21 = .ok (.getfield 10, 3) := by decide +kernel
theorem dX8_init_24 : decode cX8_init 24 = .ok (.invokespecial 18, 3) := by decide +kernel
theorem dX8_init_27 : decode cX8_init 27 = .ok (.putfield 21, 3) := by decide +kernel
theorem dX8_init_30 : decode cX8_init 30 = .ok (.aload_n 0, 1) := by decide +kernel
theorem dX8_init_31 : decode cX8_init 31 = .ok (.new 25, 3) := by decide +kernel
theorem dX8_init_34 : decode cX8_init 34 = .ok (.dup, 1) := by decide +kernel
theorem dX8_init_35 : decode cX8_init 35 = .ok (.invokespecial 27, 3) := by decide +kernel
theorem dX8_init_38 : decode cX8_init 38 = .ok (.putfield 28, 3) := by decide +kernel
theorem dX8_init_41 : decode cX8_init 41 = .ok (.aload_n 0, 1) := by decide +kernel
theorem dX8_init_42 : decode cX8_init 42 = .ok (.new 32, 3) := by decide +kernel
theorem dX8_init_45 : decode cX8_init 45 = .ok (.dup, 1) := by decide +kernel
theorem dX8_init_46 : decode cX8_init 46 = .ok (.invokespecial 34, 3) := by decide +kernel
theorem dX8_init_49 : decode cX8_init 49 = .ok (.putfield 35, 3) := by decide +kernel
theorem dX8_init_52 : decode cX8_init 52 = .ok (.aload_n 0, 1) := by decide +kernel
theorem dX8_init_53 : decode cX8_init 53 = .ok (.new 39, 3) := by decide +kernel
theorem dX8_init_56 : decode cX8_init 56 = .ok (.dup, 1) := by decide +kernel
theorem dX8_init_57 : decode cX8_init 57 = .ok (.aload_n 0, 1) := by decide +kernel
theorem dX8_init_58 : decode cX8_init 58 = .ok (.getfield 10, 3) := by decide +kernel
theorem dX8_init_61 : decode cX8_init 61 = .ok (.aload_n 0, 1) := by decide +kernel
theorem dX8_init_62 : decode cX8_init 62 = .ok (.getfield 21, 3) := by decide +kernel
theorem dX8_init_65 : decode cX8_init 65 = .ok (.aload_n 0, 1) := by decide +kernel
theorem dX8_init_66 : decode cX8_init 66 = .ok (.getfield 35, 3) := by decide +kernel
theorem dX8_init_69 : decode cX8_init 69 = .ok (.invokespecial 41, 3) := by decide +kernel
theorem dX8_init_72 : decode cX8_init 72 = .ok (.putfield 44, 3) := by decide +kernel
theorem dX8_init_75 : decode cX8_init 75 = .ok (.aload_n 0, 1) := by decide +kernel
theorem dX8_init_76 : decode cX8_init 76 = .ok (.new 48, 3) := by decide +kernel
theorem dX8_init_79 : decode cX8_init 79 = .ok (.dup, 1) := by decide +kernel
theorem dX8_init_80 : decode cX8_init 80 = .ok (.aload_n 0, 1) := by decide +kernel
theorem dX8_init_81 : decode cX8_init 81 = .ok (.getfield 10, 3) := by decide +kernel
theorem dX8_init_84 : decode cX8_init 84 = .ok (.aload_n 0, 1) := by decide +kernel
theorem dX8_init_85 : decode cX8_init 85 = .ok (.getfield 21, 3) := by decide +kernel
theorem dX8_init_88 : decode cX8_init 88 = .ok (.aload_n 0, 1) := by decide +kernel
theorem dX8_init_89 : decode cX8_init 89 = .ok (.getfield 35, 3) := by decide +kernel
theorem dX8_init_92 : decode cX8_init 92 = .ok (.invokespecial 50, 3) := by decide +kernel
theorem dX8_init_95 : decode cX8_init 95 = .ok (.putfield 51, 3) := by decide +kernel
theorem dX8_init_98 : decode cX8_init 98 = .ok (.aload_n 0, 1) := by decide +kernel
theorem dX8_init_99 : decode cX8_init 99 = .ok (.new 55, 3) := by decide +kernel
theorem dX8_init_102 : decode cX8_init 102 = .ok (.dup, 1) := by decide +kernel
theorem dX8_init_103 : decode cX8_init 103 = .ok (.invokespecial 57, 3) := by decide +kernel
theorem dX8_init_106 : decode cX8_init 106 = .ok (.putfield 58, 3) := by decide +kernel
theorem dX8_init_109 : decode cX8_init 109 = .ok (.aload_n 0, 1) := by decide +kernel
theorem dX8_init_110 : decode cX8_init 110 = .ok (.iconst 2, 1) := by decide +kernel
theorem dX8_init_111 : decode cX8_init 111 = .ok (.anewarray 7, 3) := by decide +kernel
theorem dX8_init_114 : decode cX8_init 114 = .ok (.putfield 62, 3) := by decide +kernel
theorem dX8_init_117 : decode cX8_init 117 = .ok (.iconst 0, 1) := by decide +kernel
theorem dX8_init_118 : decode cX8_init 118 = .ok (.istore_n 1, 1) := by decide +kernel
theorem dX8_init_119 : decode cX8_init 119 = .ok (.iload_n 1, 1) := by decide +kernel
theorem dX8_init_120 : decode cX8_init 120 = .ok (.iconst 2, 1) := by decide +kernel
theorem dX8_init_121 : decode cX8_init 121 = .ok (.if_icmp .ge 22, 3) := by decide +kernel
theorem dX8_init_124 : decode cX8_init 124 = .ok (.aload_n 0, 1) := by decide +kernel
theorem dX8_init_125 : decode cX8_init 125 = .ok (.getfield 62, 3) := by decide +kernel
theorem dX8_init_128 : decode cX8_init 128 = .ok (.iload_n 1, 1) := by decide +kernel
theorem dX8_init_129 : decode cX8_init 129 = .ok (.new 7, 3) := by decide +kernel
theorem dX8_init_132 : decode cX8_init 132 = .ok (.dup, 1) := by decide +kernel
theorem dX8_init_133 : decode cX8_init 133 = .ok (.invokespecial 9, 3) := by decide +kernel
theorem dX8_init_136 : decode cX8_init 136 = .ok (.aastore, 1) := by decide +kernel
theorem dX8_init_137 : decode cX8_init 137 = .ok (.iinc 1 1, 3) := by decide +kernel
theorem dX8_init_140 : decode cX8_init 140 = .ok (.goto (-21), 3) := by decide +kernel
theorem dX8_init_143 : decode cX8_init 143 = .ok (.aload_n 0, 1) := by decide +kernel
theorem dX8_init_144 : decode cX8_init 144 = .ok (.iconst 2, 1) := by decide +kernel
theorem dX8_init_145 : decode cX8_init 145 = .ok (.newarray .boolean, 2) := by decide +kernel
theorem dX8_init_147 : decode cX8_init 147 = .ok (.putfield 66, 3) := by decide +kernel
theorem dX8_init_150 : decode cX8_init 150 = .ok (.return_, 1) := by decide +kernel
theorem dX8_defineClass_0 : decode cX8_defineClass 0 = .ok (.aload_n 0, 1) := by decide +kernel
theorem dX8_defineClass_1 : decode cX8_defineClass 1 = .ok (.getfield 10, 3) := by decide +kernel
theorem dX8_defineClass_4 : decode cX8_defineClass 4 = .ok (.iload_n 1, 1) := by decide +kernel
theorem dX8_defineClass_5 : decode cX8_defineClass 5 = .ok (.iload_n 2, 1) := by decide +kernel
theorem dX8_defineClass_6 : decode cX8_defineClass 6 = .ok (.iload_n 3, 1) := by decide +kernel
theorem dX8_defineClass_7 : decode cX8_defineClass 7 = .ok (.invokevirtual 70, 3) := by decide +kernel
theorem dX8_defineClass_10 : decode cX8_defineClass 10 = .ok (.invokestatic 74, 3) := by decide +kernel
theorem dX8_defineClass_13 : decode cX8_defineClass 13 = .ok (.aload_n 0, 1) := by decide +kernel
theorem dX8_defineClass_14 : decode cX8_defineClass 14 = .ok (.getfield 28, 3) := by decide +kernel
theorem dX8_defineClass_17 : decode cX8_defineClass 17 = .ok (.aload_n 0, 1) := by decide +kernel
theorem dX8_defineClass_18 : decode cX8_defineClass 18 = .ok (.getfield 10, 3) := by decide +kernel
theorem dX8_defineClass_21 : decode cX8_defineClass 21 = .ok (.invokevirtual 78, 3) := by decide +kernel
theorem dX8_defineClass_24 : decode cX8_defineClass 24 = .ok (.aload_n 0, 1) := by decide +kernel
theorem dX8_defineClass_25 : decode cX8_defineClass 25 = .ok (.getfield 10, 3) := by decide +kernel
theorem dX8_defineClass_28 : decode cX8_defineClass 28 = .ok (.iload_n 1, 1) := by decide +kernel
theorem dX8_defineClass_29 : decode cX8_defineClass 29 = .ok (.iload_n 2, 1) := by decide +kernel
theorem dX8_defineClass_30 : decode cX8_defineClass 30 = .ok (.iload_n 3, 1) := by decide +kernel
theorem dX8_defineClass_31 : decode cX8_defineClass 31 = .ok (.invokevirtual 81, 3) := by decide +kernel
theorem dX8_defineClass_34 : decode cX8_defineClass 34 = .ok (.ireturn, 1) := by decide +kernel
theorem dX8_classes_0 : decode cX8_classes 0 = .ok (.aload_n 0, 1) := by decide +kernel
theorem dX8_classes_1 : decode cX8_classes 1 = .ok (.getfield 10, 3) := by decide +kernel
theorem dX8_classes_4 : decode cX8_classes 4 = .ok (.getfield 84, 3) := by decide +kernel
theorem dX8_classes_7 : decode cX8_classes 7 = .ok (.ireturn, 1) := by decide +kernel
theorem dX8_classInfo_0 : decode cX8_classInfo 0 = .ok (.aload_n 0, 1) := by decide +kernel
theorem dX8_classInfo_1 : decode cX8_classInfo 1 = .ok (.getfield 10, 3) := by decide +kernel
theorem dX8_classInfo_4 : decode cX8_classInfo 4 = .ok (.iload_n 1, 1) := by decide +kernel
theorem dX8_classInfo_5 : decode cX8_classInfo 5 = .ok (.invokevirtual 88, 3) := by decide +kernel
theorem dX8_classInfo_8 : decode cX8_classInfo 8 = .ok (.iload_n 2, 1) := by decide +kernel
theorem dX8_classInfo_9 : decode cX8_classInfo 9 = .ok (.iconst 3, 1) := by decide +kernel
theorem dX8_classInfo_10 : decode cX8_classInfo 10 = .ok (.invokestatic 92, 3) := by decide +kernel
theorem dX8_classInfo_13 : decode cX8_classInfo 13 = .ok (.invokestatic 74, 3) := by decide +kernel
theorem dX8_classInfo_16 : decode cX8_classInfo 16 = .ok (.aload_n 0, 1) := by decide +kernel
theorem dX8_classInfo_17 : decode cX8_classInfo 17 = .ok (.getfield 10, 3) := by decide +kernel
theorem dX8_classInfo_20 : decode cX8_classInfo 20 = .ok (.iload_n 1, 1) := by decide +kernel
theorem dX8_classInfo_21 : decode cX8_classInfo 21 = .ok (.iload_n 2, 1) := by decide +kernel
theorem dX8_classInfo_22 : decode cX8_classInfo 22 = .ok (.invokevirtual 96, 3) := by decide +kernel
theorem dX8_classInfo_25 : decode cX8_classInfo 25 = .ok (.ireturn, 1) := by decide +kernel
theorem dX8_refuseUnless_0 : decode cX8_refuseUnless 0 = .ok (.iload_n 0, 1) := by decide +kernel
theorem dX8_refuseUnless_1 : decode cX8_refuseUnless 1 = .ok (.ifCond .eq 7, 3) := by decide +kernel
theorem dX8_refuseUnless_4 : decode cX8_refuseUnless 4 = .ok (.iconst 0, 1) := by decide +kernel
theorem dX8_refuseUnless_5 : decode cX8_refuseUnless 5 = .ok (.goto 4, 3) := by decide +kernel
theorem dX8_refuseUnless_8 : decode cX8_refuseUnless 8 = .ok (.iconst 1, 1) := by decide +kernel
theorem dX8_refuseUnless_9 : decode cX8_refuseUnless 9 = .ok (.invokestatic 74, 3) := by decide +kernel
theorem dX8_refuseUnless_12 : decode cX8_refuseUnless 12 = .ok (.return_, 1) := by decide +kernel
theorem dX8_isSubclass_0 : decode cX8_isSubclass 0 = .ok (.aload_n 0, 1) := by decide +kernel
theorem dX8_isSubclass_1 : decode cX8_isSubclass 1 = .ok (.getfield 10, 3) := by decide +kernel
theorem dX8_isSubclass_4 : decode cX8_isSubclass 4 = .ok (.iload_n 1, 1) := by decide +kernel
theorem dX8_isSubclass_5 : decode cX8_isSubclass 5 = .ok (.invokevirtual 88, 3) := by decide +kernel
theorem dX8_isSubclass_8 : decode cX8_isSubclass 8 = .ok (.ifCond .eq 18, 3) := by decide +kernel
theorem dX8_isSubclass_11 : decode cX8_isSubclass 11 = .ok (.aload_n 0, 1) := by decide +kernel
theorem dX8_isSubclass_12 : decode cX8_isSubclass 12 = .ok (.getfield 10, 3) := by decide +kernel
theorem dX8_isSubclass_15 : decode cX8_isSubclass 15 = .ok (.iload_n 2, 1) := by decide +kernel
theorem dX8_isSubclass_16 : decode cX8_isSubclass 16 = .ok (.invokevirtual 88, 3) := by decide +kernel
theorem dX8_isSubclass_19 : decode cX8_isSubclass 19 = .ok (.ifCond .eq 7, 3) := by decide +kernel
theorem dX8_isSubclass_22 : decode cX8_isSubclass 22 = .ok (.iconst 1, 1) := by decide +kernel
theorem dX8_isSubclass_23 : decode cX8_isSubclass 23 = .ok (.goto 4, 3) := by decide +kernel
theorem dX8_isSubclass_26 : decode cX8_isSubclass 26 = .ok (.iconst 0, 1) := by decide +kernel
theorem dX8_isSubclass_27 : decode cX8_isSubclass 27 = .ok (.invokestatic 100, 3) := by decide +kernel
theorem dX8_isSubclass_30 : decode cX8_isSubclass 30 = .ok (.aload_n 0, 1) := by decide +kernel
theorem dX8_isSubclass_31 : decode cX8_isSubclass 31 = .ok (.getfield 10, 3) := by decide +kernel
theorem dX8_isSubclass_34 : decode cX8_isSubclass 34 = .ok (.iload_n 1, 1) := by decide +kernel
theorem dX8_isSubclass_35 : decode cX8_isSubclass 35 = .ok (.iload_n 2, 1) := by decide +kernel
theorem dX8_isSubclass_36 : decode cX8_isSubclass 36 = .ok (.invokevirtual 104, 3) := by decide +kernel
theorem dX8_isSubclass_39 : decode cX8_isSubclass 39 = .ok (.ireturn, 1) := by decide +kernel
theorem dX8_newInstance_0 : decode cX8_newInstance 0 = .ok (.aload_n 0, 1) := by decide +kernel
theorem dX8_newInstance_1 : decode cX8_newInstance 1 = .ok (.getfield 10, 3) := by decide +kernel
theorem dX8_newInstance_4 : decode cX8_newInstance 4 = .ok (.iload_n 1, 1) := by decide +kernel
theorem dX8_newInstance_5 : decode cX8_newInstance 5 = .ok (.invokevirtual 108, 3) := by decide +kernel
theorem dX8_newInstance_8 : decode cX8_newInstance 8 = .ok (.invokestatic 74, 3) := by decide +kernel
theorem dX8_newInstance_11 : decode cX8_newInstance 11 = .ok (.aload_n 0, 1) := by decide +kernel
theorem dX8_newInstance_12 : decode cX8_newInstance 12 = .ok (.getfield 28, 3) := by decide +kernel
theorem dX8_newInstance_15 : decode cX8_newInstance 15 = .ok (.aload_n 0, 1) := by decide +kernel
theorem dX8_newInstance_16 : decode cX8_newInstance 16 = .ok (.getfield 10, 3) := by decide +kernel
theorem dX8_newInstance_19 : decode cX8_newInstance 19 = .ok (.invokevirtual 78, 3) := by decide +kernel
theorem dX8_newInstance_22 : decode cX8_newInstance 22 = .ok (.aload_n 0, 1) := by decide +kernel
theorem dX8_newInstance_23 : decode cX8_newInstance 23 = .ok (.getfield 10, 3) := by decide +kernel
theorem dX8_newInstance_26 : decode cX8_newInstance 26 = .ok (.iload_n 1, 1) := by decide +kernel
theorem dX8_newInstance_27 : decode cX8_newInstance 27 = .ok (.invokevirtual 112, 3) := by decide +kernel
theorem dX8_newInstance_30 : decode cX8_newInstance 30 = .ok (.ireturn, 1) := by decide +kernel
theorem dX8_newArray_0 : decode cX8_newArray 0 = .ok (.aload_n 0, 1) := by decide +kernel
theorem dX8_newArray_1 : decode cX8_newArray 1 = .ok (.getfield 10, 3) := by decide +kernel
theorem dX8_newArray_4 : decode cX8_newArray 4 = .ok (.iload_n 1, 1) := by decide +kernel
theorem dX8_newArray_5 : decode cX8_newArray 5 = .ok (.invokevirtual 115, 3) := by decide +kernel
theorem dX8_newArray_8 : decode cX8_newArray 8 = .ok (.invokestatic 74, 3) := by decide +kernel
theorem dX8_newArray_11 : decode cX8_newArray 11 = .ok (.aload_n 0, 1) := by decide +kernel
theorem dX8_newArray_12 : decode cX8_newArray 12 = .ok (.getfield 28, 3) := by decide +kernel
theorem dX8_newArray_15 : decode cX8_newArray 15 = .ok (.aload_n 0, 1) := by decide +kernel
theorem dX8_newArray_16 : decode cX8_newArray 16 = .ok (.getfield 10, 3) := by decide +kernel
theorem dX8_newArray_19 : decode cX8_newArray 19 = .ok (.invokevirtual 78, 3) := by decide +kernel
theorem dX8_newArray_22 : decode cX8_newArray 22 = .ok (.aload_n 0, 1) := by decide +kernel
theorem dX8_newArray_23 : decode cX8_newArray 23 = .ok (.getfield 10, 3) := by decide +kernel
theorem dX8_newArray_26 : decode cX8_newArray 26 = .ok (.iload_n 1, 1) := by decide +kernel
theorem dX8_newArray_27 : decode cX8_newArray 27 = .ok (.invokevirtual 118, 3) := by decide +kernel
theorem dX8_newArray_30 : decode cX8_newArray 30 = .ok (.ireturn, 1) := by decide +kernel
theorem dX8_newHolder_0 : decode cX8_newHolder 0 = .ok (.aload_n 0, 1) := by decide +kernel
theorem dX8_newHolder_1 : decode cX8_newHolder 1 = .ok (.getfield 10, 3) := by decide +kernel
theorem dX8_newHolder_4 : decode cX8_newHolder 4 = .ok (.invokevirtual 121, 3) := by decide +kernel
theorem dX8_newHolder_7 : decode cX8_newHolder 7 = .ok (.invokestatic 74, 3) := by decide +kernel
theorem dX8_newHolder_10 : decode cX8_newHolder 10 = .ok (.aload_n 0, 1) := by decide +kernel
theorem dX8_newHolder_11 : decode cX8_newHolder 11 = .ok (.getfield 28, 3) := by decide +kernel
theorem dX8_newHolder_14 : decode cX8_newHolder 14 = .ok (.aload_n 0, 1) := by decide +kernel
theorem dX8_newHolder_15 : decode cX8_newHolder 15 = .ok (.getfield 10, 3) := by decide +kernel
theorem dX8_newHolder_18 : decode cX8_newHolder 18 = .ok (.invokevirtual 78, 3) := by decide +kernel
theorem dX8_newHolder_21 : decode cX8_newHolder 21 = .ok (.aload_n 0, 1) := by decide +kernel
theorem dX8_newHolder_22 : decode cX8_newHolder 22 = .ok (.getfield 10, 3) := by decide +kernel
theorem dX8_newHolder_25 : decode cX8_newHolder 25 = .ok (.invokevirtual 125, 3) := by decide +kernel
theorem dX8_newHolder_28 : decode cX8_newHolder 28 = .ok (.ireturn, 1) := by decide +kernel
theorem dX8_set_0 : decode cX8_set 0 = .ok (.aload_n 0, 1) := by decide +kernel
theorem dX8_set_1 : decode cX8_set 1 = .ok (.getfield 10, 3) := by decide +kernel
theorem dX8_set_4 : decode cX8_set 4 = .ok (.iload_n 1, 1) := by decide +kernel
theorem dX8_set_5 : decode cX8_set 5 = .ok (.iload_n 2, 1) := by decide +kernel
theorem dX8_set_6 : decode cX8_set 6 = .ok (.iload_n 3, 1) := by decide +kernel
theorem dX8_set_7 : decode cX8_set 7 = .ok (.invokevirtual 128, 3) := by decide +kernel
theorem dX8_set_10 : decode cX8_set 10 = .ok (.invokestatic 74, 3) := by decide +kernel
theorem dX8_set_13 : decode cX8_set 13 = .ok (.aload_n 0, 1) := by decide +kernel
theorem dX8_set_14 : decode cX8_set 14 = .ok (.getfield 28, 3) := by decide +kernel
theorem dX8_set_17 : decode cX8_set 17 = .ok (.aload_n 0, 1) := by decide +kernel
theorem dX8_set_18 : decode cX8_set 18 = .ok (.getfield 10, 3) := by decide +kernel
theorem dX8_set_21 : decode cX8_set 21 = .ok (.invokevirtual 78, 3) := by decide +kernel
theorem dX8_set_24 : decode cX8_set 24 = .ok (.aload_n 0, 1) := by decide +kernel
theorem dX8_set_25 : decode cX8_set 25 = .ok (.getfield 10, 3) := by decide +kernel
theorem dX8_set_28 : decode cX8_set 28 = .ok (.iload_n 1, 1) := by decide +kernel
theorem dX8_set_29 : decode cX8_set 29 = .ok (.iload_n 2, 1) := by decide +kernel
theorem dX8_set_30 : decode cX8_set 30 = .ok (.iload_n 3, 1) := by decide +kernel
theorem dX8_set_31 : decode cX8_set 31 = .ok (.invokevirtual 131, 3) := by decide +kernel
theorem dX8_set_34 : decode cX8_set 34 = .ok (.ireturn, 1) := by decide +kernel
theorem dX8_get_0 : decode cX8_get 0 = .ok (.aload_n 0, 1) := by decide +kernel
theorem dX8_get_1 : decode cX8_get 1 = .ok (.getfield 10, 3) := by decide +kernel
theorem dX8_get_4 : decode cX8_get 4 = .ok (.iload_n 1, 1) := by decide +kernel
theorem dX8_get_5 : decode cX8_get 5 = .ok (.iload_n 2, 1) := by decide +kernel
theorem dX8_get_6 : decode cX8_get 6 = .ok (.invokevirtual 134, 3) := by decide +kernel
theorem dX8_get_9 : decode cX8_get 9 = .ok (.invokestatic 100, 3) := by decide +kernel
theorem dX8_get_12 : decode cX8_get 12 = .ok (.aload_n 0, 1) := by decide +kernel
theorem dX8_get_13 : decode cX8_get 13 = .ok (.getfield 10, 3) := by decide +kernel
theorem dX8_get_16 : decode cX8_get 16 = .ok (.iload_n 1, 1) := by decide +kernel
theorem dX8_get_17 : decode cX8_get 17 = .ok (.iload_n 2, 1) := by decide +kernel
theorem dX8_get_18 : decode cX8_get 18 = .ok (.invokevirtual 137, 3) := by decide +kernel
theorem dX8_get_21 : decode cX8_get 21 = .ok (.ireturn, 1) := by decide +kernel
theorem dX8_resizeArray_0 : decode cX8_resizeArray 0 = .ok (.aload_n 0, 1) := by decide +kernel
theorem dX8_resizeArray_1 : decode cX8_resizeArray 1 = .ok (.getfield 10, 3) := by decide +kernel
theorem dX8_resizeArray_4 : decode cX8_resizeArray 4 = .ok (.iload_n 1, 1) := by decide +kernel
theorem dX8_resizeArray_5 : decode cX8_resizeArray 5 = .ok (.iload_n 2, 1) := by decide +kernel
theorem dX8_resizeArray_6 : decode cX8_resizeArray 6 = .ok (.invokevirtual 140, 3) := by decide +kernel
theorem dX8_resizeArray_9 : decode cX8_resizeArray 9 = .ok (.invokestatic 74, 3) := by decide +kernel
theorem dX8_resizeArray_12 : decode cX8_resizeArray 12 = .ok (.aload_n 0, 1) := by decide +kernel
theorem dX8_resizeArray_13 : decode cX8_resizeArray 13 = .ok (.getfield 28, 3) := by decide +kernel
theorem dX8_resizeArray_16 : decode cX8_resizeArray 16 = .ok (.aload_n 0, 1) := by decide +kernel
theorem dX8_resizeArray_17 : decode cX8_resizeArray 17 = .ok (.getfield 10, 3) := by decide +kernel
theorem dX8_resizeArray_20 : decode cX8_resizeArray 20 = .ok (.invokevirtual 78, 3) := by decide +kernel
theorem dX8_resizeArray_23 : decode cX8_resizeArray 23 = .ok (.aload_n 0, 1) := by decide +kernel
theorem dX8_resizeArray_24 : decode cX8_resizeArray 24 = .ok (.getfield 10, 3) := by decide +kernel
theorem dX8_resizeArray_27 : decode cX8_resizeArray 27 = .ok (.iload_n 1, 1) := by decide +kernel
theorem dX8_resizeArray_28 : decode cX8_resizeArray 28 = .ok (.iload_n 2, 1) := by decide +kernel
theorem dX8_resizeArray_29 : decode cX8_resizeArray 29 = .ok (.invokevirtual 143, 3) := by decide +kernel
theorem dX8_resizeArray_32 : decode cX8_resizeArray 32 = .ok (.ireturn, 1) := by decide +kernel
theorem dX8_referent_0 : decode cX8_referent 0 = .ok (.aload_n 0, 1) := by decide +kernel
theorem dX8_referent_1 : decode cX8_referent 1 = .ok (.getfield 10, 3) := by decide +kernel
theorem dX8_referent_4 : decode cX8_referent 4 = .ok (.iload_n 1, 1) := by decide +kernel
theorem dX8_referent_5 : decode cX8_referent 5 = .ok (.invokevirtual 146, 3) := by decide +kernel
theorem dX8_referent_8 : decode cX8_referent 8 = .ok (.invokestatic 100, 3) := by decide +kernel
theorem dX8_referent_11 : decode cX8_referent 11 = .ok (.aload_n 0, 1) := by decide +kernel
theorem dX8_referent_12 : decode cX8_referent 12 = .ok (.getfield 10, 3) := by decide +kernel
theorem dX8_referent_15 : decode cX8_referent 15 = .ok (.getfield 149, 3) := by decide +kernel
theorem dX8_referent_18 : decode cX8_referent 18 = .ok (.iload_n 1, 1) := by decide +kernel
theorem dX8_referent_19 : decode cX8_referent 19 = .ok (.iaload, 1) := by decide +kernel
theorem dX8_referent_20 : decode cX8_referent 20 = .ok (.bipush 11, 2) := by decide +kernel
theorem dX8_referent_22 : decode cX8_referent 22 = .ok (.if_icmp .ne 7, 3) := by decide +kernel
theorem dX8_referent_25 : decode cX8_referent 25 = .ok (.iconst 0, 1) := by decide +kernel
theorem dX8_referent_26 : decode cX8_referent 26 = .ok (.goto 4, 3) := by decide +kernel
theorem dX8_referent_29 : decode cX8_referent 29 = .ok (.iconst 3, 1) := by decide +kernel
theorem dX8_referent_30 : decode cX8_referent 30 = .ok (.invokestatic 74, 3) := by decide +kernel
theorem dX8_referent_33 : decode cX8_referent 33 = .ok (.aload_n 0, 1) := by decide +kernel
theorem dX8_referent_34 : decode cX8_referent 34 = .ok (.getfield 10, 3) := by decide +kernel
theorem dX8_referent_37 : decode cX8_referent 37 = .ok (.iload_n 1, 1) := by decide +kernel
theorem dX8_referent_38 : decode cX8_referent 38 = .ok (.iconst 0, 1) := by decide +kernel
theorem dX8_referent_39 : decode cX8_referent 39 = .ok (.invokevirtual 137, 3) := by decide +kernel
theorem dX8_referent_42 : decode cX8_referent 42 = .ok (.ireturn, 1) := by decide +kernel
theorem dX8_addRoot_0 : decode cX8_addRoot 0 = .ok (.aload_n 0, 1) := by decide +kernel
theorem dX8_addRoot_1 : decode cX8_addRoot 1 = .ok (.getfield 10, 3) := by decide +kernel
theorem dX8_addRoot_4 : decode cX8_addRoot 4 = .ok (.iload_n 1, 1) := by decide +kernel
theorem dX8_addRoot_5 : decode cX8_addRoot 5 = .ok (.iload_n 2, 1) := by decide +kernel
theorem dX8_addRoot_6 : decode cX8_addRoot 6 = .ok (.invokevirtual 153, 3) := by decide +kernel
theorem dX8_addRoot_9 : decode cX8_addRoot 9 = .ok (.invokestatic 74, 3) := by decide +kernel
theorem dX8_addRoot_12 : decode cX8_addRoot 12 = .ok (.aload_n 0, 1) := by decide +kernel
theorem dX8_addRoot_13 : decode cX8_addRoot 13 = .ok (.getfield 28, 3) := by decide +kernel
theorem dX8_addRoot_16 : decode cX8_addRoot 16 = .ok (.aload_n 0, 1) := by decide +kernel
theorem dX8_addRoot_17 : decode cX8_addRoot 17 = .ok (.getfield 10, 3) := by decide +kernel
theorem dX8_addRoot_20 : decode cX8_addRoot 20 = .ok (.invokevirtual 78, 3) := by decide +kernel
theorem dX8_addRoot_23 : decode cX8_addRoot 23 = .ok (.aload_n 0, 1) := by decide +kernel
theorem dX8_addRoot_24 : decode cX8_addRoot 24 = .ok (.getfield 10, 3) := by decide +kernel
theorem dX8_addRoot_27 : decode cX8_addRoot 27 = .ok (.iload_n 1, 1) := by decide +kernel
theorem dX8_addRoot_28 : decode cX8_addRoot 28 = .ok (.aload_n 0, 1) := by decide +kernel
theorem dX8_addRoot_29 : decode cX8_addRoot 29 = .ok (.getfield 10, 3) := by decide +kernel
theorem dX8_addRoot_32 : decode cX8_addRoot 32 = .ok (.getfield 156, 3) := by decide +kernel
theorem dX8_addRoot_35 : decode cX8_addRoot 35 = .ok (.iload_n 1, 1) := by decide +kernel
theorem dX8_addRoot_36 : decode cX8_addRoot 36 = .ok (.iaload, 1) := by decide +kernel
theorem dX8_addRoot_37 : decode cX8_addRoot 37 = .ok (.iconst 1, 1) := by decide +kernel
theorem dX8_addRoot_38 : decode cX8_addRoot 38 = .ok (.iload_n 2, 1) := by decide +kernel
theorem dX8_addRoot_39 : decode cX8_addRoot 39 = .ok (.ishl, 1) := by decide +kernel
theorem dX8_addRoot_40 : decode cX8_addRoot 40 = .ok (.ior, 1) := by decide +kernel
theorem dX8_addRoot_41 : decode cX8_addRoot 41 = .ok (.invokevirtual 159, 3) := by decide +kernel
theorem dX8_addRoot_44 : decode cX8_addRoot 44 = .ok (.ireturn, 1) := by decide +kernel
theorem dX8_removeRoot_0 : decode cX8_removeRoot 0 = .ok (.aload_n 0, 1) := by decide +kernel
theorem dX8_removeRoot_1 : decode cX8_removeRoot 1 = .ok (.getfield 10, 3) := by decide +kernel
theorem dX8_removeRoot_4 : decode cX8_removeRoot 4 = .ok (.iload_n 1, 1) := by decide +kernel
theorem dX8_removeRoot_5 : decode cX8_removeRoot 5 = .ok (.iload_n 2, 1) := by decide +kernel
theorem dX8_removeRoot_6 : decode cX8_removeRoot 6 = .ok (.invokevirtual 162, 3) := by decide +kernel
theorem dX8_removeRoot_9 : decode cX8_removeRoot 9 = .ok (.invokestatic 74, 3) := by decide +kernel
theorem dX8_removeRoot_12 : decode cX8_removeRoot 12 = .ok (.aload_n 0, 1) := by decide +kernel
theorem dX8_removeRoot_13 : decode cX8_removeRoot 13 = .ok (.getfield 28, 3) := by decide +kernel
theorem dX8_removeRoot_16 : decode cX8_removeRoot 16 = .ok (.aload_n 0, 1) := by decide +kernel
theorem dX8_removeRoot_17 : decode cX8_removeRoot 17 = .ok (.getfield 10, 3) := by decide +kernel
theorem dX8_removeRoot_20 : decode cX8_removeRoot 20 = .ok (.invokevirtual 78, 3) := by decide +kernel
theorem dX8_removeRoot_23 : decode cX8_removeRoot 23 = .ok (.aload_n 0, 1) := by decide +kernel
theorem dX8_removeRoot_24 : decode cX8_removeRoot 24 = .ok (.getfield 10, 3) := by decide +kernel
theorem dX8_removeRoot_27 : decode cX8_removeRoot 27 = .ok (.iload_n 1, 1) := by decide +kernel
theorem dX8_removeRoot_28 : decode cX8_removeRoot 28 = .ok (.aload_n 0, 1) := by decide +kernel
theorem dX8_removeRoot_29 : decode cX8_removeRoot 29 = .ok (.getfield 10, 3) := by decide +kernel
theorem dX8_removeRoot_32 : decode cX8_removeRoot 32 = .ok (.getfield 156, 3) := by decide +kernel
theorem dX8_removeRoot_35 : decode cX8_removeRoot 35 = .ok (.iload_n 1, 1) := by decide +kernel
theorem dX8_removeRoot_36 : decode cX8_removeRoot 36 = .ok (.iaload, 1) := by decide +kernel
theorem dX8_removeRoot_37 : decode cX8_removeRoot 37 = .ok (.iconst 1, 1) := by decide +kernel
theorem dX8_removeRoot_38 : decode cX8_removeRoot 38 = .ok (.iload_n 2, 1) := by decide +kernel
theorem dX8_removeRoot_39 : decode cX8_removeRoot 39 = .ok (.ishl, 1) := by decide +kernel
theorem dX8_removeRoot_40 : decode cX8_removeRoot 40 = .ok (.iconst (-1), 1) := by decide +kernel
theorem dX8_removeRoot_41 : decode cX8_removeRoot 41 = .ok (.ixor, 1) := by decide +kernel
theorem dX8_removeRoot_42 : decode cX8_removeRoot 42 = .ok (.iand, 1) := by decide +kernel
theorem dX8_removeRoot_43 : decode cX8_removeRoot 43 = .ok (.invokevirtual 159, 3) := by decide +kernel
theorem dX8_removeRoot_46 : decode cX8_removeRoot 46 = .ok (.ireturn, 1) := by decide +kernel
theorem dX8_collect_0 : decode cX8_collect 0 = .ok (.aload_n 0, 1) := by decide +kernel
theorem dX8_collect_1 : decode cX8_collect 1 = .ok (.getfield 28, 3) := by decide +kernel
theorem dX8_collect_4 : decode cX8_collect 4 = .ok (.aload_n 0, 1) := by decide +kernel
theorem dX8_collect_5 : decode cX8_collect 5 = .ok (.getfield 10, 3) := by decide +kernel
theorem dX8_collect_8 : decode cX8_collect 8 = .ok (.invokevirtual 78, 3) := by decide +kernel
theorem dX8_collect_11 : decode cX8_collect 11 = .ok (.aload_n 0, 1) := by decide +kernel
theorem dX8_collect_12 : decode cX8_collect 12 = .ok (.getfield 21, 3) := by decide +kernel
theorem dX8_collect_15 : decode cX8_collect 15 = .ok (.invokevirtual 165, 3) := by decide +kernel
theorem dX8_collect_18 : decode cX8_collect 18 = .ok (.ireturn, 1) := by decide +kernel
theorem dX8_objects_0 : decode cX8_objects 0 = .ok (.aload_n 0, 1) := by decide +kernel
theorem dX8_objects_1 : decode cX8_objects 1 = .ok (.getfield 10, 3) := by decide +kernel
theorem dX8_objects_4 : decode cX8_objects 4 = .ok (.invokevirtual 168, 3) := by decide +kernel
theorem dX8_objects_7 : decode cX8_objects 7 = .ok (.ireturn, 1) := by decide +kernel
theorem dX8_exists_0 : decode cX8_exists 0 = .ok (.aload_n 0, 1) := by decide +kernel
theorem dX8_exists_1 : decode cX8_exists 1 = .ok (.getfield 10, 3) := by decide +kernel
theorem dX8_exists_4 : decode cX8_exists 4 = .ok (.iload_n 1, 1) := by decide +kernel
theorem dX8_exists_5 : decode cX8_exists 5 = .ok (.invokevirtual 146, 3) := by decide +kernel
theorem dX8_exists_8 : decode cX8_exists 8 = .ok (.ireturn, 1) := by decide +kernel
theorem dX8_objectInfo_0 : decode cX8_objectInfo 0 = .ok (.aload_n 0, 1) := by decide +kernel
theorem dX8_objectInfo_1 : decode cX8_objectInfo 1 = .ok (.getfield 10, 3) := by decide +kernel
theorem dX8_objectInfo_4 : decode cX8_objectInfo 4 = .ok (.iload_n 1, 1) := by decide +kernel
theorem dX8_objectInfo_5 : decode cX8_objectInfo 5 = .ok (.invokevirtual 146, 3) := by decide +kernel
theorem dX8_objectInfo_8 : decode cX8_objectInfo 8 = .ok (.iload_n 2, 1) := by decide +kernel
theorem dX8_objectInfo_9 : decode cX8_objectInfo 9 = .ok (.bipush 7, 2) := by decide +kernel
theorem dX8_objectInfo_11 : decode cX8_objectInfo 11 = .ok (.invokestatic 92, 3) := by decide +kernel
theorem dX8_objectInfo_14 : decode cX8_objectInfo 14 = .ok (.invokestatic 74, 3) := by decide +kernel
theorem dX8_objectInfo_17 : decode cX8_objectInfo 17 = .ok (.aload_n 0, 1) := by decide +kernel
theorem dX8_objectInfo_18 : decode cX8_objectInfo 18 = .ok (.getfield 21, 3) := by decide +kernel
theorem dX8_objectInfo_21 : decode cX8_objectInfo 21 = .ok (.invokevirtual 171, 3) := by decide +kernel
theorem dX8_objectInfo_24 : decode cX8_objectInfo 24 = .ok (.iload_n 2, 1) := by decide +kernel
theorem dX8_objectInfo_25 : decode cX8_objectInfo 25 = .ok (.lookupswitch 47 #[(6, 27), (7, 37)], 27) := by decide +kernel
theorem dX8_objectInfo_52 : decode cX8_objectInfo 52 = .ok (.aload_n 0, 1) := by decide +kernel
theorem dX8_objectInfo_53 : decode cX8_objectInfo 53 = .ok (.getfield 21, 3) := by decide +kernel
theorem dX8_objectInfo_56 : decode cX8_objectInfo 56 = .ok (.getfield 174, 3) := by decide +kernel
theorem dX8_objectInfo_59 : decode cX8_objectInfo 59 = .ok (.iload_n 1, 1) := by decide +kernel
theorem dX8_objectInfo_60 : decode cX8_objectInfo 60 = .ok (.iaload, 1) := by decide +kernel
theorem dX8_objectInfo_61 : decode cX8_objectInfo 61 = .ok (.ireturn, 1) := by decide +kernel
theorem dX8_objectInfo_62 : decode cX8_objectInfo 62 = .ok (.aload_n 0, 1) := by decide +kernel
theorem dX8_objectInfo_63 : decode cX8_objectInfo 63 = .ok (.getfield 21, 3) := by decide +kernel
theorem dX8_objectInfo_66 : decode cX8_objectInfo 66 = .ok (.getfield 177, 3) := by decide +kernel
theorem dX8_objectInfo_69 : decode cX8_objectInfo 69 = .ok (.iload_n 1, 1) := by decide +kernel
theorem dX8_objectInfo_70 : decode cX8_objectInfo 70 = .ok (.iaload, 1) := by decide +kernel
theorem dX8_objectInfo_71 : decode cX8_objectInfo 71 = .ok (.ireturn, 1) := by decide +kernel
theorem dX8_objectInfo_72 : decode cX8_objectInfo 72 = .ok (.aload_n 0, 1) := by decide +kernel
theorem dX8_objectInfo_73 : decode cX8_objectInfo 73 = .ok (.getfield 10, 3) := by decide +kernel
theorem dX8_objectInfo_76 : decode cX8_objectInfo 76 = .ok (.iload_n 1, 1) := by decide +kernel
theorem dX8_objectInfo_77 : decode cX8_objectInfo 77 = .ok (.iload_n 2, 1) := by decide +kernel
theorem dX8_objectInfo_78 : decode cX8_objectInfo 78 = .ok (.invokevirtual 180, 3) := by decide +kernel
theorem dX8_objectInfo_81 : decode cX8_objectInfo 81 = .ok (.ireturn, 1) := by decide +kernel
theorem dX8_populate_0 : decode cX8_populate 0 = .ok (.iload_n 1, 1) := by decide +kernel
theorem dX8_populate_1 : decode cX8_populate 1 = .ok (.ifCond .lt 18, 3) := by decide +kernel
theorem dX8_populate_4 : decode cX8_populate 4 = .ok (.iload_n 2, 1) := by decide +kernel
theorem dX8_populate_5 : decode cX8_populate 5 = .ok (.iconst 1, 1) := by decide +kernel
theorem dX8_populate_6 : decode cX8_populate 6 = .ok (.if_icmp .lt 13, 3) := by decide +kernel
theorem dX8_populate_9 : decode cX8_populate 9 = .ok (.iload_n 2, 1) := by decide +kernel
theorem dX8_populate_10 : decode cX8_populate 10 = .ok (.bipush 40, 2) := by decide +kernel
theorem dX8_populate_12 : decode cX8_populate 12 = .ok (.if_icmp .gt 7, 3) := by decide +kernel
theorem dX8_populate_15 : decode cX8_populate 15 = .ok (.iconst 0, 1) := by decide +kernel
theorem dX8_populate_16 : decode cX8_populate 16 = .ok (.goto 4, 3) := by decide +kernel
theorem dX8_populate_19 : decode cX8_populate 19 = .ok (.iconst 2, 1) := by decide +kernel
theorem dX8_populate_20 : decode cX8_populate 20 = .ok (.invokestatic 74, 3) := by decide +kernel
theorem dX8_populate_23 : decode cX8_populate 23 = .ok (.aload_n 0, 1) := by decide +kernel
theorem dX8_populate_24 : decode cX8_populate 24 = .ok (.getfield 10, 3) := by decide +kernel
theorem dX8_populate_27 : decode cX8_populate 27 = .ok (.invokevirtual 168, 3) := by decide +kernel
theorem dX8_populate_30 : decode cX8_populate 30 = .ok (.iload_n 2, 1) := by decide +kernel
theorem dX8_populate_31 : decode cX8_populate 31 = .ok (.iadd, 1) := by decide +kernel
theorem dX8_populate_32 : decode cX8_populate 32 = .ok (.bipush 40, 2) := by decide +kernel
theorem dX8_populate_34 : decode cX8_populate 34 = .ok (.if_icmp .gt 7, 3) := by decide +kernel
theorem dX8_populate_37 : decode cX8_populate 37 = .ok (.iconst 0, 1) := by decide +kernel
theorem dX8_populate_38 : decode cX8_populate 38 = .ok (.goto 4, 3) := by decide +kernel
theorem dX8_populate_41 : decode cX8_populate 41 = .ok (.iconst 3, 1) := by decide +kernel
theorem dX8_populate_42 : decode cX8_populate 42 = .ok (.invokestatic 74, 3) := by decide +kernel
theorem dX8_populate_45 : decode cX8_populate 45 = .ok (.aload_n 0, 1) := by decide +kernel
theorem dX8_populate_46 : decode cX8_populate 46 = .ok (.getfield 28, 3) := by decide +kernel
theorem dX8_populate_49 : decode cX8_populate 49 = .ok (.aload_n 0, 1) := by decide +kernel
theorem dX8_populate_50 : decode cX8_populate 50 = .ok (.getfield 10, 3) := by decide +kernel
theorem dX8_populate_53 : decode cX8_populate 53 = .ok (.invokevirtual 78, 3) := by decide +kernel
theorem dX8_populate_56 : decode cX8_populate 56 = .ok (.aload_n 0, 1) := by decide +kernel
theorem dX8_populate_57 : decode cX8_populate 57 = .ok (.getfield 58, 3) := by decide +kernel
theorem dX8_populate_60 : decode cX8_populate 60 = .ok (.iload_n 1, 1) := by decide +kernel
theorem dX8_populate_61 : decode cX8_populate 61 = .ok (.invokevirtual 183, 3) := by decide +kernel
theorem dX8_populate_64 : decode cX8_populate 64 = .ok (.iconst 0, 1) := by decide +kernel
theorem dX8_populate_65 : decode cX8_populate 65 = .ok (.istore_n 3, 1) := by decide +kernel
theorem dX8_populate_66 : decode cX8_populate 66 = .ok (.iload_n 3, 1) := by decide +kernel
theorem dX8_populate_67 : decode cX8_populate 67 = .ok (.iload_n 2, 1) := by decide +kernel
theorem dX8_populate_68 : decode cX8_populate 68 = .ok (.if_icmp .ge 20, 3) := by decide +kernel
theorem dX8_populate_71 : decode cX8_populate 71 = .ok (.aload_n 0, 1) := by decide +kernel
theorem dX8_populate_72 : decode cX8_populate 72 = .ok (.getfield 58, 3) := by decide +kernel
theorem dX8_populate_75 : decode cX8_populate 75 = .ok (.aload_n 0, 1) := by decide +kernel
theorem dX8_populate_76 : decode cX8_populate 76 = .ok (.getfield 10, 3) := by decide +kernel
theorem dX8_populate_79 : decode cX8_populate 79 = .ok (.invokevirtual 186, 3) := by decide +kernel
theorem dX8_populate_82 : decode cX8_populate 82 = .ok (.iinc 3 1, 3) := by decide +kernel
theorem dX8_populate_85 : decode cX8_populate 85 = .ok (.goto (-19), 3) := by decide +kernel
theorem dX8_populate_88 : decode cX8_populate 88 = .ok (.aload_n 0, 1) := by decide +kernel
theorem dX8_populate_89 : decode cX8_populate 89 = .ok (.getfield 10, 3) := by decide +kernel
theorem dX8_populate_92 : decode cX8_populate 92 = .ok (.invokevirtual 168, 3) := by decide +kernel
theorem dX8_populate_95 : decode cX8_populate 95 = .ok (.ireturn, 1) := by decide +kernel
theorem dX8_distance_0 : decode cX8_distance 0 = .ok (.aload_n 0, 1) := by decide +kernel
theorem dX8_distance_1 : decode cX8_distance 1 = .ok (.getfield 10, 3) := by decide +kernel
theorem dX8_distance_4 : decode cX8_distance 4 = .ok (.iload_n 1, 1) := by decide +kernel
theorem dX8_distance_5 : decode cX8_distance 5 = .ok (.invokevirtual 146, 3) := by decide +kernel
theorem dX8_distance_8 : decode cX8_distance 8 = .ok (.invokestatic 100, 3) := by decide +kernel
theorem dX8_distance_11 : decode cX8_distance 11 = .ok (.aload_n 0, 1) := by decide +kernel
theorem dX8_distance_12 : decode cX8_distance 12 = .ok (.getfield 21, 3) := by decide +kernel
theorem dX8_distance_15 : decode cX8_distance 15 = .ok (.invokevirtual 171, 3) := by decide +kernel
theorem dX8_distance_18 : decode cX8_distance 18 = .ok (.aload_n 0, 1) := by decide +kernel
theorem dX8_distance_19 : decode cX8_distance 19 = .ok (.getfield 21, 3) := by decide +kernel
theorem dX8_distance_22 : decode cX8_distance 22 = .ok (.getfield 189, 3) := by decide +kernel
theorem dX8_distance_25 : decode cX8_distance 25 = .ok (.getfield 193, 3) := by decide +kernel
theorem dX8_distance_28 : decode cX8_distance 28 = .ok (.iload_n 1, 1) := by decide +kernel
theorem dX8_distance_29 : decode cX8_distance 29 = .ok (.iaload, 1) := by decide +kernel
theorem dX8_distance_30 : decode cX8_distance 30 = .ok (.ireturn, 1) := by decide +kernel
theorem dX8_pathAt_0 : decode cX8_pathAt 0 = .ok (.aload_n 0, 1) := by decide +kernel
theorem dX8_pathAt_1 : decode cX8_pathAt 1 = .ok (.getfield 10, 3) := by decide +kernel
theorem dX8_pathAt_4 : decode cX8_pathAt 4 = .ok (.iload_n 1, 1) := by decide +kernel
theorem dX8_pathAt_5 : decode cX8_pathAt 5 = .ok (.invokevirtual 146, 3) := by decide +kernel
theorem dX8_pathAt_8 : decode cX8_pathAt 8 = .ok (.invokestatic 100, 3) := by decide +kernel
theorem dX8_pathAt_11 : decode cX8_pathAt 11 = .ok (.aload_n 0, 1) := by decide +kernel
theorem dX8_pathAt_12 : decode cX8_pathAt 12 = .ok (.getfield 21, 3) := by decide +kernel
theorem dX8_pathAt_15 : decode cX8_pathAt 15 = .ok (.invokevirtual 171, 3) := by decide +kernel
theorem dX8_pathAt_18 : decode cX8_pathAt 18 = .ok (.aload_n 0, 1) := by decide +kernel
theorem dX8_pathAt_19 : decode cX8_pathAt 19 = .ok (.getfield 21, 3) := by decide +kernel
theorem dX8_pathAt_22 : decode cX8_pathAt 22 = .ok (.getfield 189, 3) := by decide +kernel
theorem dX8_pathAt_25 : decode cX8_pathAt 25 = .ok (.iload_n 1, 1) := by decide +kernel
theorem dX8_pathAt_26 : decode cX8_pathAt 26 = .ok (.iload_n 2, 1) := by decide +kernel
theorem dX8_pathAt_27 : decode cX8_pathAt 27 = .ok (.invokevirtual 198, 3) := by decide +kernel
theorem dX8_pathAt_30 : decode cX8_pathAt 30 = .ok (.ireturn, 1) := by decide +kernel
theorem dX8_dominates_0 : decode cX8_dominates 0 = .ok (.aload_n 0, 1) := by decide +kernel
theorem dX8_dominates_1 : decode cX8_dominates 1 = .ok (.getfield 10, 3) := by decide +kernel
theorem dX8_dominates_4 : decode cX8_dominates 4 = .ok (.iload_n 1, 1) := by decide +kernel
theorem dX8_dominates_5 : decode cX8_dominates 5 = .ok (.invokevirtual 146, 3) := by decide +kernel
theorem dX8_dominates_8 : decode cX8_dominates 8 = .ok (.ifCond .eq 18, 3) := by decide +kernel
theorem dX8_dominates_11 : decode cX8_dominates 11 = .ok (.aload_n 0, 1) := by decide +kernel
theorem dX8_dominates_12 : decode cX8_dominates 12 = .ok (.getfield 10, 3) := by decide +kernel
theorem dX8_dominates_15 : decode cX8_dominates 15 = .ok (.iload_n 2, 1) := by decide +kernel
theorem dX8_dominates_16 : decode cX8_dominates 16 = .ok (.invokevirtual 146, 3) := by decide +kernel
theorem dX8_dominates_19 : decode cX8_dominates 19 = .ok (.ifCond .eq 7, 3) := by decide +kernel
theorem dX8_dominates_22 : decode cX8_dominates 22 = .ok (.iconst 1, 1) := by decide +kernel
theorem dX8_dominates_23 : decode cX8_dominates 23 = .ok (.goto 4, 3) := by decide +kernel
theorem dX8_dominates_26 : decode cX8_dominates 26 = .ok (.iconst 0, 1) := by decide +kernel
theorem dX8_dominates_27 : decode cX8_dominates 27 = .ok (.invokestatic 100, 3) := by decide +kernel
theorem dX8_dominates_30 : decode cX8_dominates 30 = .ok (.aload_n 0, 1) := by decide +kernel
theorem dX8_dominates_31 : decode cX8_dominates 31 = .ok (.getfield 21, 3) := by decide +kernel
theorem dX8_dominates_34 : decode cX8_dominates 34 = .ok (.invokevirtual 171, 3) := by decide +kernel
theorem dX8_dominates_37 : decode cX8_dominates 37 = .ok (.aload_n 0, 1) := by decide +kernel
theorem dX8_dominates_38 : decode cX8_dominates 38 = .ok (.getfield 21, 3) := by decide +kernel
theorem dX8_dominates_41 : decode cX8_dominates 41 = .ok (.getfield 201, 3) := by decide +kernel
theorem dX8_dominates_44 : decode cX8_dominates 44 = .ok (.iload_n 2, 1) := by decide +kernel
theorem dX8_dominates_45 : decode cX8_dominates 45 = .ok (.laload, 1) := by decide +kernel
theorem dX8_dominates_46 : decode cX8_dominates 46 = .ok (.iload_n 1, 1) := by decide +kernel
theorem dX8_dominates_47 : decode cX8_dominates 47 = .ok (.invokestatic 205, 3) := by decide +kernel
theorem dX8_dominates_50 : decode cX8_dominates 50 = .ok (.ireturn, 1) := by decide +kernel
theorem dX8_dominator_0 : decode cX8_dominator 0 = .ok (.aload_n 0, 1) := by decide +kernel
theorem dX8_dominator_1 : decode cX8_dominator 1 = .ok (.getfield 10, 3) := by decide +kernel
theorem dX8_dominator_4 : decode cX8_dominator 4 = .ok (.iload_n 1, 1) := by decide +kernel
theorem dX8_dominator_5 : decode cX8_dominator 5 = .ok (.invokevirtual 146, 3) := by decide +kernel
theorem dX8_dominator_8 : decode cX8_dominator 8 = .ok (.invokestatic 100, 3) := by decide +kernel
theorem dX8_dominator_11 : decode cX8_dominator 11 = .ok (.aload_n 0, 1) := by decide +kernel
theorem dX8_dominator_12 : decode cX8_dominator 12 = .ok (.getfield 21, 3) := by decide +kernel
theorem dX8_dominator_15 : decode cX8_dominator 15 = .ok (.invokevirtual 171, 3) := by decide +kernel
theorem dX8_dominator_18 : decode cX8_dominator 18 = .ok (.aload_n 0, 1) := by decide +kernel
theorem dX8_dominator_19 : decode cX8_dominator 19 = .ok (.getfield 21, 3) := by decide +kernel
theorem dX8_dominator_22 : decode cX8_dominator 22 = .ok (.getfield 209, 3) := by decide +kernel
theorem dX8_dominator_25 : decode cX8_dominator 25 = .ok (.iload_n 1, 1) := by decide +kernel
theorem dX8_dominator_26 : decode cX8_dominator 26 = .ok (.iaload, 1) := by decide +kernel
theorem dX8_dominator_27 : decode cX8_dominator 27 = .ok (.ireturn, 1) := by decide +kernel
theorem dX8_depth_0 : decode cX8_depth 0 = .ok (.aload_n 0, 1) := by decide +kernel
theorem dX8_depth_1 : decode cX8_depth 1 = .ok (.getfield 10, 3) := by decide +kernel
theorem dX8_depth_4 : decode cX8_depth 4 = .ok (.iload_n 1, 1) := by decide +kernel
theorem dX8_depth_5 : decode cX8_depth 5 = .ok (.invokevirtual 146, 3) := by decide +kernel
theorem dX8_depth_8 : decode cX8_depth 8 = .ok (.invokestatic 100, 3) := by decide +kernel
theorem dX8_depth_11 : decode cX8_depth 11 = .ok (.aload_n 0, 1) := by decide +kernel
theorem dX8_depth_12 : decode cX8_depth 12 = .ok (.getfield 21, 3) := by decide +kernel
theorem dX8_depth_15 : decode cX8_depth 15 = .ok (.invokevirtual 171, 3) := by decide +kernel
theorem dX8_depth_18 : decode cX8_depth 18 = .ok (.aload_n 0, 1) := by decide +kernel
theorem dX8_depth_19 : decode cX8_depth 19 = .ok (.getfield 21, 3) := by decide +kernel
theorem dX8_depth_22 : decode cX8_depth 22 = .ok (.getfield 201, 3) := by decide +kernel
theorem dX8_depth_25 : decode cX8_depth 25 = .ok (.iload_n 1, 1) := by decide +kernel
theorem dX8_depth_26 : decode cX8_depth 26 = .ok (.laload, 1) := by decide +kernel
theorem dX8_depth_27 : decode cX8_depth 27 = .ok (.invokestatic 212, 3) := by decide +kernel
theorem dX8_depth_30 : decode cX8_depth 30 = .ok (.iconst 1, 1) := by decide +kernel
theorem dX8_depth_31 : decode cX8_depth 31 = .ok (.isub, 1) := by decide +kernel
theorem dX8_depth_32 : decode cX8_depth 32 = .ok (.ireturn, 1) := by decide +kernel
theorem dX8_dominatedAt_0 : decode cX8_dominatedAt 0 = .ok (.iload_n 1, 1) := by decide +kernel
theorem dX8_dominatedAt_1 : decode cX8_dominatedAt 1 = .ok (.iconst (-1), 1) := by decide +kernel
theorem dX8_dominatedAt_2 : decode cX8_dominatedAt 2 = .ok (.if_icmp .eq 14, 3) := by decide +kernel
theorem dX8_dominatedAt_5 : decode cX8_dominatedAt 5 = .ok (.aload_n 0, 1) := by decide +kernel
theorem dX8_dominatedAt_6 : decode cX8_dominatedAt 6 = .ok (.getfield 10, 3) := by decide +kernel
theorem dX8_dominatedAt_9 : decode cX8_dominatedAt 9 = .ok (.iload_n 1, 1) := by decide +kernel
theorem dX8_dominatedAt_10 : decode cX8_dominatedAt 10 = .ok (.invokevirtual 146, 3) := by decide +kernel
theorem dX8_dominatedAt_13 : decode cX8_dominatedAt 13 = .ok (.ifCond .eq 7, 3) := by decide +kernel
theorem dX8_dominatedAt_16 : decode cX8_dominatedAt 16 = .ok (.iconst 1, 1) := by decide +kernel
theorem dX8_dominatedAt_17 : decode cX8_dominatedAt 17 = .ok (.goto 4, 3) := by decide +kernel
theorem dX8_dominatedAt_20 : decode cX8_dominatedAt 20 = .ok (.iconst 0, 1) := by decide +kernel
theorem dX8_dominatedAt_21 : decode cX8_dominatedAt 21 = .ok (.invokestatic 100, 3) := by decide +kernel
theorem dX8_dominatedAt_24 : decode cX8_dominatedAt 24 = .ok (.aload_n 0, 1) := by decide +kernel
theorem dX8_dominatedAt_25 : decode cX8_dominatedAt 25 = .ok (.getfield 21, 3) := by decide +kernel
theorem dX8_dominatedAt_28 : decode cX8_dominatedAt 28 = .ok (.invokevirtual 171, 3) := by decide +kernel
theorem dX8_dominatedAt_31 : decode cX8_dominatedAt 31 = .ok (.aload_n 0, 1) := by decide +kernel
theorem dX8_dominatedAt_32 : decode cX8_dominatedAt 32 = .ok (.getfield 21, 3) := by decide +kernel
theorem dX8_dominatedAt_35 : decode cX8_dominatedAt 35 = .ok (.iload_n 1, 1) := by decide +kernel
theorem dX8_dominatedAt_36 : decode cX8_dominatedAt 36 = .ok (.invokevirtual 218, 3) := by decide +kernel
theorem dX8_dominatedAt_39 : decode cX8_dominatedAt 39 = .ok (.iload_n 2, 1) := by decide +kernel
theorem dX8_dominatedAt_40 : decode cX8_dominatedAt 40 = .ok (.invokestatic 222, 3) := by decide +kernel
theorem dX8_dominatedAt_43 : decode cX8_dominatedAt 43 = .ok (.ireturn, 1) := by decide +kernel
theorem dX8_retainedSize_0 : decode cX8_retainedSize 0 = .ok (.aload_n 0, 1) := by decide +kernel
theorem dX8_retainedSize_1 : decode cX8_retainedSize 1 = .ok (.getfield 10, 3) := by decide +kernel
theorem dX8_retainedSize_4 : decode cX8_retainedSize 4 = .ok (.iload_n 1, 1) := by decide +kernel
theorem dX8_retainedSize_5 : decode cX8_retainedSize 5 = .ok (.invokevirtual 146, 3) := by decide +kernel
theorem dX8_retainedSize_8 : decode cX8_retainedSize 8 = .ok (.invokestatic 100, 3) := by decide +kernel
theorem dX8_retainedSize_11 : decode cX8_retainedSize 11 = .ok (.aload_n 0, 1) := by decide +kernel
theorem dX8_retainedSize_12 : decode cX8_retainedSize 12 = .ok (.getfield 21, 3) := by decide +kernel
theorem dX8_retainedSize_15 : decode cX8_retainedSize 15 = .ok (.invokevirtual 171, 3) := by decide +kernel
theorem dX8_retainedSize_18 : decode cX8_retainedSize 18 = .ok (.aload_n 0, 1) := by decide +kernel
theorem dX8_retainedSize_19 : decode cX8_retainedSize 19 = .ok (.getfield 21, 3) := by decide +kernel
theorem dX8_retainedSize_22 : decode cX8_retainedSize 22 = .ok (.getfield 226, 3) := by decide +kernel
theorem dX8_retainedSize_25 : decode cX8_retainedSize 25 = .ok (.iload_n 1, 1) := by decide +kernel
theorem dX8_retainedSize_26 : decode cX8_retainedSize 26 = .ok (.iaload, 1) := by decide +kernel
theorem dX8_retainedSize_27 : decode cX8_retainedSize 27 = .ok (.ireturn, 1) := by decide +kernel
theorem dX8_retainedObjects_0 : decode cX8_retainedObjects 0 = .ok (.aload_n 0, 1) := by decide +kernel
theorem dX8_retainedObjects_1 : decode cX8_retainedObjects 1 = .ok (.getfield 10, 3) := by decide +kernel
theorem dX8_retainedObjects_4 : decode cX8_retainedObjects 4 = .ok (.iload_n 1, 1) := by decide +kernel
theorem dX8_retainedObjects_5 : decode cX8_retainedObjects 5 = .ok (.invokevirtual 146, 3) := by decide +kernel
theorem dX8_retainedObjects_8 : decode cX8_retainedObjects 8 = .ok (.invokestatic 100, 3) := by decide +kernel
theorem dX8_retainedObjects_11 : decode cX8_retainedObjects 11 = .ok (.aload_n 0, 1) := by decide +kernel
theorem dX8_retainedObjects_12 : decode cX8_retainedObjects 12 = .ok (.getfield 21, 3) := by decide +kernel
theorem dX8_retainedObjects_15 : decode cX8_retainedObjects 15 = .ok (.invokevirtual 171, 3) := by decide +kernel
theorem dX8_retainedObjects_18 : decode cX8_retainedObjects 18 = .ok (.aload_n 0, 1) := by decide +kernel
theorem dX8_retainedObjects_19 : decode cX8_retainedObjects 19 = .ok (.getfield 21, 3) := by decide +kernel
theorem dX8_retainedObjects_22 : decode cX8_retainedObjects 22 = .ok (.iload_n 1, 1) := by decide +kernel
theorem dX8_retainedObjects_23 : decode cX8_retainedObjects 23 = .ok (.invokevirtual 229, 3) := by decide +kernel
theorem dX8_retainedObjects_26 : decode cX8_retainedObjects 26 = .ok (.invokestatic 212, 3) := by decide +kernel
theorem dX8_retainedObjects_29 : decode cX8_retainedObjects 29 = .ok (.ireturn, 1) := by decide +kernel
theorem dX8_component_0 : decode cX8_component 0 = .ok (.aload_n 0, 1) := by decide +kernel
theorem dX8_component_1 : decode cX8_component 1 = .ok (.getfield 10, 3) := by decide +kernel
theorem dX8_component_4 : decode cX8_component 4 = .ok (.iload_n 1, 1) := by decide +kernel
theorem dX8_component_5 : decode cX8_component 5 = .ok (.invokevirtual 146, 3) := by decide +kernel
theorem dX8_component_8 : decode cX8_component 8 = .ok (.invokestatic 100, 3) := by decide +kernel
theorem dX8_component_11 : decode cX8_component 11 = .ok (.aload_n 0, 1) := by decide +kernel
theorem dX8_component_12 : decode cX8_component 12 = .ok (.getfield 21, 3) := by decide +kernel
theorem dX8_component_15 : decode cX8_component 15 = .ok (.invokevirtual 171, 3) := by decide +kernel
theorem dX8_component_18 : decode cX8_component 18 = .ok (.aload_n 0, 1) := by decide +kernel
theorem dX8_component_19 : decode cX8_component 19 = .ok (.getfield 21, 3) := by decide +kernel
theorem dX8_component_22 : decode cX8_component 22 = .ok (.getfield 232, 3) := by decide +kernel
theorem dX8_component_25 : decode cX8_component 25 = .ok (.iload_n 1, 1) := by decide +kernel
theorem dX8_component_26 : decode cX8_component 26 = .ok (.iaload, 1) := by decide +kernel
theorem dX8_component_27 : decode cX8_component 27 = .ok (.ireturn, 1) := by decide +kernel
theorem dX8_componentSize_0 : decode cX8_componentSize 0 = .ok (.aload_n 0, 1) := by decide +kernel
theorem dX8_componentSize_1 : decode cX8_componentSize 1 = .ok (.getfield 10, 3) := by decide +kernel
theorem dX8_componentSize_4 : decode cX8_componentSize 4 = .ok (.iload_n 1, 1) := by decide +kernel
theorem dX8_componentSize_5 : decode cX8_componentSize 5 = .ok (.invokevirtual 146, 3) := by decide +kernel
theorem dX8_componentSize_8 : decode cX8_componentSize 8 = .ok (.invokestatic 100, 3) := by decide +kernel
theorem dX8_componentSize_11 : decode cX8_componentSize 11 = .ok (.aload_n 0, 1) := by decide +kernel
theorem dX8_componentSize_12 : decode cX8_componentSize 12 = .ok (.getfield 21, 3) := by decide +kernel
theorem dX8_componentSize_15 : decode cX8_componentSize 15 = .ok (.invokevirtual 171, 3) := by decide +kernel
theorem dX8_componentSize_18 : decode cX8_componentSize 18 = .ok (.aload_n 0, 1) := by decide +kernel
theorem dX8_componentSize_19 : decode cX8_componentSize 19 = .ok (.getfield 21, 3) := by decide +kernel
theorem dX8_componentSize_22 : decode cX8_componentSize 22 = .ok (.iload_n 1, 1) := by decide +kernel
theorem dX8_componentSize_23 : decode cX8_componentSize 23 = .ok (.invokevirtual 235, 3) := by decide +kernel
theorem dX8_componentSize_26 : decode cX8_componentSize 26 = .ok (.ireturn, 1) := by decide +kernel
theorem dX8_freedByClearing_0 : decode cX8_freedByClearing 0 = .ok (.aload_n 0, 1) := by decide +kernel
theorem dX8_freedByClearing_1 : decode cX8_freedByClearing 1 = .ok (.getfield 10, 3) := by decide +kernel
theorem dX8_freedByClearing_4 : decode cX8_freedByClearing 4 = .ok (.iload_n 1, 1) := by decide +kernel
theorem dX8_freedByClearing_5 : decode cX8_freedByClearing 5 = .ok (.iload_n 2, 1) := by decide +kernel
theorem dX8_freedByClearing_6 : decode cX8_freedByClearing 6 = .ok (.invokevirtual 134, 3) := by decide +kernel
theorem dX8_freedByClearing_9 : decode cX8_freedByClearing 9 = .ok (.invokestatic 100, 3) := by decide +kernel
theorem dX8_freedByClearing_12 : decode cX8_freedByClearing 12 = .ok (.aload_n 0, 1) := by decide +kernel
theorem dX8_freedByClearing_13 : decode cX8_freedByClearing 13 = .ok (.getfield 21, 3) := by decide +kernel
theorem dX8_freedByClearing_16 : decode cX8_freedByClearing 16 = .ok (.invokevirtual 171, 3) := by decide +kernel
theorem dX8_freedByClearing_19 : decode cX8_freedByClearing 19 = .ok (.aload_n 0, 1) := by decide +kernel
theorem dX8_freedByClearing_20 : decode cX8_freedByClearing 20 = .ok (.getfield 21, 3) := by decide +kernel
theorem dX8_freedByClearing_23 : decode cX8_freedByClearing 23 = .ok (.iload_n 1, 1) := by decide +kernel
theorem dX8_freedByClearing_24 : decode cX8_freedByClearing 24 = .ok (.iload_n 2, 1) := by decide +kernel
theorem dX8_freedByClearing_25 : decode cX8_freedByClearing 25 = .ok (.invokevirtual 238, 3) := by decide +kernel
theorem dX8_freedByClearing_28 : decode cX8_freedByClearing 28 = .ok (.ireturn, 1) := by decide +kernel
theorem dX8_freedByUnrooting_0 : decode cX8_freedByUnrooting 0 = .ok (.aload_n 0, 1) := by decide +kernel
theorem dX8_freedByUnrooting_1 : decode cX8_freedByUnrooting 1 = .ok (.getfield 10, 3) := by decide +kernel
theorem dX8_freedByUnrooting_4 : decode cX8_freedByUnrooting 4 = .ok (.iload_n 1, 1) := by decide +kernel
theorem dX8_freedByUnrooting_5 : decode cX8_freedByUnrooting 5 = .ok (.invokevirtual 146, 3) := by decide +kernel
theorem dX8_freedByUnrooting_8 : decode cX8_freedByUnrooting 8 = .ok (.invokestatic 100, 3) := by decide +kernel
theorem dX8_freedByUnrooting_11 : decode cX8_freedByUnrooting 11 = .ok (.aload_n 0, 1) := by decide +kernel
theorem dX8_freedByUnrooting_12 : decode cX8_freedByUnrooting 12 = .ok (.getfield 21, 3) := by decide +kernel
theorem dX8_freedByUnrooting_15 : decode cX8_freedByUnrooting 15 = .ok (.invokevirtual 171, 3) := by decide +kernel
theorem dX8_freedByUnrooting_18 : decode cX8_freedByUnrooting 18 = .ok (.aload_n 0, 1) := by decide +kernel
theorem dX8_freedByUnrooting_19 : decode cX8_freedByUnrooting 19 = .ok (.getfield 21, 3) := by decide +kernel
theorem dX8_freedByUnrooting_22 : decode cX8_freedByUnrooting 22 = .ok (.iload_n 1, 1) := by decide +kernel
theorem dX8_freedByUnrooting_23 : decode cX8_freedByUnrooting 23 = .ok (.invokevirtual 241, 3) := by decide +kernel
theorem dX8_freedByUnrooting_26 : decode cX8_freedByUnrooting 26 = .ok (.ireturn, 1) := by decide +kernel
theorem dX8_group_0 : decode cX8_group 0 = .ok (.aload_n 0, 1) := by decide +kernel
theorem dX8_group_1 : decode cX8_group 1 = .ok (.getfield 10, 3) := by decide +kernel
theorem dX8_group_4 : decode cX8_group 4 = .ok (.iload_n 1, 1) := by decide +kernel
theorem dX8_group_5 : decode cX8_group 5 = .ok (.invokevirtual 244, 3) := by decide +kernel
theorem dX8_group_8 : decode cX8_group 8 = .ok (.iload_n 2, 1) := by decide +kernel
theorem dX8_group_9 : decode cX8_group 9 = .ok (.iconst 3, 1) := by decide +kernel
theorem dX8_group_10 : decode cX8_group 10 = .ok (.invokestatic 92, 3) := by decide +kernel
theorem dX8_group_13 : decode cX8_group 13 = .ok (.invokestatic 74, 3) := by decide +kernel
theorem dX8_group_16 : decode cX8_group 16 = .ok (.aload_n 0, 1) := by decide +kernel
theorem dX8_group_17 : decode cX8_group 17 = .ok (.getfield 21, 3) := by decide +kernel
theorem dX8_group_20 : decode cX8_group 20 = .ok (.invokevirtual 171, 3) := by decide +kernel
theorem dX8_group_23 : decode cX8_group 23 = .ok (.aload_n 0, 1) := by decide +kernel
theorem dX8_group_24 : decode cX8_group 24 = .ok (.getfield 10, 3) := by decide +kernel
theorem dX8_group_27 : decode cX8_group 27 = .ok (.iload_n 1, 1) := by decide +kernel
theorem dX8_group_28 : decode cX8_group 28 = .ok (.iload_n 3, 1) := by decide +kernel
theorem dX8_group_29 : decode cX8_group 29 = .ok (.invokevirtual 247, 3) := by decide +kernel
theorem dX8_group_32 : decode cX8_group 32 = .ok (.lstore 4, 2) := by decide +kernel
theorem dX8_group_34 : decode cX8_group 34 = .ok (.iload_n 2, 1) := by decide +kernel
theorem dX8_group_35 : decode cX8_group 35 = .ok (.tableswitch 58 0 2 #[25, 31, 48], 25) := by decide +kernel
theorem dX8_group_60 : decode cX8_group 60 = .ok (.lload 4, 2) := by decide +kernel
theorem dX8_group_62 : decode cX8_group 62 = .ok (.invokestatic 212, 3) := by decide +kernel
theorem dX8_group_65 : decode cX8_group 65 = .ok (.ireturn, 1) := by decide +kernel
theorem dX8_group_66 : decode cX8_group 66 = .ok (.lload 4, 2) := by decide +kernel
theorem dX8_group_68 : decode cX8_group 68 = .ok (.aload_n 0, 1) := by decide +kernel
theorem dX8_group_69 : decode cX8_group 69 = .ok (.getfield 21, 3) := by decide +kernel
theorem dX8_group_72 : decode cX8_group 72 = .ok (.getfield 189, 3) := by decide +kernel
theorem dX8_group_75 : decode cX8_group 75 = .ok (.getfield 251, 3) := by decide +kernel
theorem dX8_group_78 : decode cX8_group 78 = .ok (.land, 1) := by decide +kernel
theorem dX8_group_79 : decode cX8_group 79 = .ok (.invokestatic 212, 3) := by decide +kernel
theorem dX8_group_82 : decode cX8_group 82 = .ok (.ireturn, 1) := by decide +kernel
theorem dX8_group_83 : decode cX8_group 83 = .ok (.aload_n 0, 1) := by decide +kernel
theorem dX8_group_84 : decode cX8_group 84 = .ok (.getfield 10, 3) := by decide +kernel
theorem dX8_group_87 : decode cX8_group 87 = .ok (.lload 4, 2) := by decide +kernel
theorem dX8_group_89 : decode cX8_group 89 = .ok (.invokevirtual 255, 3) := by decide +kernel
theorem dX8_group_92 : decode cX8_group 92 = .ok (.ireturn, 1) := by decide +kernel
theorem dX8_group_93 : decode cX8_group 93 = .ok (.aload_n 0, 1) := by decide +kernel
theorem dX8_group_94 : decode cX8_group 94 = .ok (.getfield 21, 3) := by decide +kernel
theorem dX8_group_97 : decode cX8_group 97 = .ok (.lload 4, 2) := by decide +kernel
theorem dX8_group_99 : decode cX8_group 99 = .ok (.invokevirtual 258, 3) := by decide +kernel
theorem dX8_group_102 : decode cX8_group 102 = .ok (.ireturn, 1) := by decide +kernel
theorem dX8_quotientBits_0 : decode cX8_quotientBits 0 = .ok (.lload_n 0, 1) := by decide +kernel
theorem dX8_quotientBits_1 : decode cX8_quotientBits 1 = .ok (.lconst 0, 1) := by decide +kernel
theorem dX8_quotientBits_2 : decode cX8_quotientBits 2 = .ok (.lcmp, 1) := by decide +kernel
theorem dX8_quotientBits_3 : decode cX8_quotientBits 3 = .ok (.ifCond .le 9, 3) := by decide +kernel
theorem dX8_quotientBits_6 : decode cX8_quotientBits 6 = .ok (.lload_n 2, 1) := by decide +kernel
theorem dX8_quotientBits_7 : decode cX8_quotientBits 7 = .ok (.lconst 0, 1) := by decide +kernel
theorem dX8_quotientBits_8 : decode cX8_quotientBits 8 = .ok (.lcmp, 1) := by decide +kernel
theorem dX8_quotientBits_9 : decode cX8_quotientBits 9 = .ok (.ifCond .gt 5, 3) := by decide +kernel
theorem dX8_quotientBits_12 : decode cX8_quotientBits 12 = .ok (.lconst 0, 1) := by decide +kernel
theorem dX8_quotientBits_13 : decode cX8_quotientBits 13 = .ok (.lreturn, 1) := by decide +kernel
theorem dX8_quotientBits_14 : decode cX8_quotientBits 14 = .ok (.lload_n 0, 1) := by decide +kernel
theorem dX8_quotientBits_15 : decode cX8_quotientBits 15 = .ok (.lstore 6, 2) := by decide +kernel
theorem dX8_quotientBits_17 : decode cX8_quotientBits 17 = .ok (.lload_n 2, 1) := by decide +kernel
theorem dX8_quotientBits_18 : decode cX8_quotientBits 18 = .ok (.lstore 8, 2) := by decide +kernel
theorem dX8_quotientBits_20 : decode cX8_quotientBits 20 = .ok (.iload 5, 2) := by decide +kernel
theorem dX8_quotientBits_22 : decode cX8_quotientBits 22 = .ok (.istore 10, 2) := by decide +kernel
theorem dX8_quotientBits_24 : decode cX8_quotientBits 24 = .ok (.iconst 0, 1) := by decide +kernel
theorem dX8_quotientBits_25 : decode cX8_quotientBits 25 = .ok (.istore 11, 2) := by decide +kernel
theorem dX8_quotientBits_27 : decode cX8_quotientBits 27 = .ok (.iload 11, 2) := by decide +kernel
theorem dX8_quotientBits_29 : decode cX8_quotientBits 29 = .ok (.bipush 32, 2) := by decide +kernel
theorem dX8_quotientBits_31 : decode cX8_quotientBits 31 = .ok (.if_icmp .ge 32, 3) := by decide +kernel
theorem dX8_quotientBits_34 : decode cX8_quotientBits 34 = .ok (.lload 6, 2) := by decide +kernel
theorem dX8_quotientBits_36 : decode cX8_quotientBits 36 = .ok (.ldc2_w 368, 3) := by decide +kernel
theorem dX8_quotientBits_39 : decode cX8_quotientBits 39 = .ok (.lload 8, 2) := by decide +kernel
theorem dX8_quotientBits_41 : decode cX8_quotientBits 41 = .ok (.lmul, 1) := by decide +kernel
theorem dX8_quotientBits_42 : decode cX8_quotientBits 42 = .ok (.lcmp, 1) := by decide +kernel
theorem dX8_quotientBits_43 : decode cX8_quotientBits 43 = .ok (.ifCond .lt 20, 3) := by decide +kernel
theorem dX8_quotientBits_46 : decode cX8_quotientBits 46 = .ok (.lload 8, 2) := by decide +kernel
theorem dX8_quotientBits_48 : decode cX8_quotientBits 48 = .ok (.ldc2_w 368, 3) := by decide +kernel
theorem dX8_quotientBits_51 : decode cX8_quotientBits 51 = .ok (.lmul, 1) := by decide +kernel
theorem dX8_quotientBits_52 : decode cX8_quotientBits 52 = .ok (.lstore 8, 2) := by decide +kernel
theorem dX8_quotientBits_54 : decode cX8_quotientBits 54 = .ok (.iinc 10 1, 3) := by decide +kernel
theorem dX8_quotientBits_57 : decode cX8_quotientBits 57 = .ok (.iinc 11 1, 3) := by decide +kernel
theorem dX8_quotientBits_60 : decode cX8_quotientBits 60 = .ok (.goto (-33), 3) := by decide +kernel
theorem dX8_quotientBits_63 : decode cX8_quotientBits 63 = .ok (.iconst 0, 1) := by decide +kernel
theorem dX8_quotientBits_64 : decode cX8_quotientBits 64 = .ok (.istore 11, 2) := by decide +kernel
theorem dX8_quotientBits_66 : decode cX8_quotientBits 66 = .ok (.iload 11, 2) := by decide +kernel
theorem dX8_quotientBits_68 : decode cX8_quotientBits 68 = .ok (.bipush 32, 2) := by decide +kernel
theorem dX8_quotientBits_70 : decode cX8_quotientBits 70 = .ok (.if_icmp .ge 28, 3) := by decide +kernel
theorem dX8_quotientBits_73 : decode cX8_quotientBits 73 = .ok (.lload 6, 2) := by decide +kernel
theorem dX8_quotientBits_75 : decode cX8_quotientBits 75 = .ok (.lload 8, 2) := by decide +kernel
theorem dX8_quotientBits_77 : decode cX8_quotientBits 77 = .ok (.lcmp, 1) := by decide +kernel
theorem dX8_quotientBits_78 : decode cX8_quotientBits 78 = .ok (.ifCond .ge 20, 3) := by decide +kernel
theorem dX8_quotientBits_81 : decode cX8_quotientBits 81 = .ok (.lload 6, 2) := by decide +kernel
theorem dX8_quotientBits_83 : decode cX8_quotientBits 83 = .ok (.ldc2_w 368, 3) := by decide +kernel
theorem dX8_quotientBits_86 : decode cX8_quotientBits 86 = .ok (.lmul, 1) := by decide +kernel
theorem dX8_quotientBits_87 : decode cX8_quotientBits 87 = .ok (.lstore 6, 2) := by decide +kernel
theorem dX8_quotientBits_89 : decode cX8_quotientBits 89 = .ok (.iinc 10 (-1), 3) := by decide +kernel
theorem dX8_quotientBits_92 : decode cX8_quotientBits 92 = .ok (.iinc 11 1, 3) := by decide +kernel
theorem dX8_quotientBits_95 : decode cX8_quotientBits 95 = .ok (.goto (-29), 3) := by decide +kernel
theorem dX8_quotientBits_98 : decode cX8_quotientBits 98 = .ok (.lload 6, 2) := by decide +kernel
theorem dX8_quotientBits_100 : decode cX8_quotientBits 100 = .ok (.lload 8, 2) := by decide +kernel
theorem dX8_quotientBits_102 : decode cX8_quotientBits 102 = .ok (.lsub, 1) := by decide +kernel
theorem dX8_quotientBits_103 : decode cX8_quotientBits 103 = .ok (.lstore 6, 2) := by decide +kernel
theorem dX8_quotientBits_105 : decode cX8_quotientBits 105 = .ok (.lconst 0, 1) := by decide +kernel
theorem dX8_quotientBits_106 : decode cX8_quotientBits 106 = .ok (.lstore 11, 2) := by decide +kernel
theorem dX8_quotientBits_108 : decode cX8_quotientBits 108 = .ok (.iconst 0, 1) := by decide +kernel
theorem dX8_quotientBits_109 : decode cX8_quotientBits 109 = .ok (.istore 13, 2) := by decide +kernel
theorem dX8_quotientBits_111 : decode cX8_quotientBits 111 = .ok (.iload 13, 2) := by decide +kernel
theorem dX8_quotientBits_113 : decode cX8_quotientBits 113 = .ok (.iload 4, 2) := by decide +kernel
theorem dX8_quotientBits_115 : decode cX8_quotientBits 115 = .ok (.if_icmp .ge 46, 3) := by decide +kernel
theorem dX8_quotientBits_118 : decode cX8_quotientBits 118 = .ok (.lload 6, 2) := by decide +kernel
theorem dX8_quotientBits_120 : decode cX8_quotientBits 120 = .ok (.ldc2_w 368, 3) := by decide +kernel
theorem dX8_quotientBits_123 : decode cX8_quotientBits 123 = .ok (.lmul, 1) := by decide +kernel
theorem dX8_quotientBits_124 : decode cX8_quotientBits 124 = .ok (.lstore 6, 2) := by decide +kernel
theorem dX8_quotientBits_126 : decode cX8_quotientBits 126 = .ok (.lload 11, 2) := by decide +kernel
theorem dX8_quotientBits_128 : decode cX8_quotientBits 128 = .ok (.ldc2_w 368, 3) := by decide +kernel
theorem dX8_quotientBits_131 : decode cX8_quotientBits 131 = .ok (.lmul, 1) := by decide +kernel
theorem dX8_quotientBits_132 : decode cX8_quotientBits 132 = .ok (.lstore 11, 2) := by decide +kernel
theorem dX8_quotientBits_134 : decode cX8_quotientBits 134 = .ok (.lload 6, 2) := by decide +kernel
theorem dX8_quotientBits_136 : decode cX8_quotientBits 136 = .ok (.lload 8, 2) := by decide +kernel
theorem dX8_quotientBits_138 : decode cX8_quotientBits 138 = .ok (.lcmp, 1) := by decide +kernel
theorem dX8_quotientBits_139 : decode cX8_quotientBits 139 = .ok (.ifCond .lt 16, 3) := by decide +kernel
theorem dX8_quotientBits_142 : decode cX8_quotientBits 142 = .ok (.lload 6, 2) := by decide +kernel
theorem dX8_quotientBits_144 : decode cX8_quotientBits 144 = .ok (.lload 8, 2) := by decide +kernel
theorem dX8_quotientBits_146 : decode cX8_quotientBits 146 = .ok (.lsub, 1) := by decide +kernel
theorem dX8_quotientBits_147 : decode cX8_quotientBits 147 = .ok (.lstore 6, 2) := by decide +kernel
theorem dX8_quotientBits_149 : decode cX8_quotientBits 149 = .ok (.lload 11, 2) := by decide +kernel
theorem dX8_quotientBits_151 : decode cX8_quotientBits 151 = .ok (.lconst 1, 1) := by decide +kernel
theorem dX8_quotientBits_152 : decode cX8_quotientBits 152 = .ok (.ladd, 1) := by decide +kernel
theorem dX8_quotientBits_153 : decode cX8_quotientBits 153 = .ok (.lstore 11, 2) := by decide +kernel
theorem dX8_quotientBits_155 : decode cX8_quotientBits 155 = .ok (.iinc 13 1, 3) := by decide +kernel
theorem dX8_quotientBits_158 : decode cX8_quotientBits 158 = .ok (.goto (-47), 3) := by decide +kernel
theorem dX8_quotientBits_161 : decode cX8_quotientBits 161 = .ok (.ldc2_w 368, 3) := by decide +kernel
theorem dX8_quotientBits_164 : decode cX8_quotientBits 164 = .ok (.lload 6, 2) := by decide +kernel
theorem dX8_quotientBits_166 : decode cX8_quotientBits 166 = .ok (.lmul, 1) := by decide +kernel
theorem dX8_quotientBits_167 : decode cX8_quotientBits 167 = .ok (.lload 8, 2) := by decide +kernel
theorem dX8_quotientBits_169 : decode cX8_quotientBits 169 = .ok (.lcmp, 1) := by decide +kernel
theorem dX8_quotientBits_170 : decode cX8_quotientBits 170 = .ok (.ifCond .gt 24, 3) := by decide +kernel
theorem dX8_quotientBits_173 : decode cX8_quotientBits 173 = .ok (.ldc2_w 368, 3) := by decide +kernel
theorem dX8_quotientBits_176 : decode cX8_quotientBits 176 = .ok (.lload 6, 2) := by decide +kernel
theorem dX8_quotientBits_178 : decode cX8_quotientBits 178 = .ok (.lmul, 1) := by decide +kernel
theorem dX8_quotientBits_179 : decode cX8_quotientBits 179 = .ok (.lload 8, 2) := by decide +kernel
theorem dX8_quotientBits_181 : decode cX8_quotientBits 181 = .ok (.lcmp, 1) := by decide +kernel
theorem dX8_quotientBits_182 : decode cX8_quotientBits 182 = .ok (.ifCond .ne 16, 3) := by decide +kernel
theorem dX8_quotientBits_185 : decode cX8_quotientBits 185 = .ok (.lload 11, 2) := by decide +kernel
theorem dX8_quotientBits_187 : decode cX8_quotientBits 187 = .ok (.lconst 1, 1) := by decide +kernel
theorem dX8_quotientBits_188 : decode cX8_quotientBits 188 = .ok (.land, 1) := by decide +kernel
theorem dX8_quotientBits_189 : decode cX8_quotientBits 189 = .ok (.lconst 1, 1) := by decide +kernel
theorem dX8_quotientBits_190 : decode cX8_quotientBits 190 = .ok (.lcmp, 1) := by decide +kernel
theorem dX8_quotientBits_191 : decode cX8_quotientBits 191 = .ok (.ifCond .ne 7, 3) := by decide +kernel
theorem dX8_quotientBits_194 : decode cX8_quotientBits 194 = .ok (.iconst 1, 1) := by decide +kernel
theorem dX8_quotientBits_195 : decode cX8_quotientBits 195 = .ok (.goto 4, 3) := by decide +kernel
theorem dX8_quotientBits_198 : decode cX8_quotientBits 198 = .ok (.iconst 0, 1) := by decide +kernel
theorem dX8_quotientBits_199 : decode cX8_quotientBits 199 = .ok (.istore 13, 2) := by decide +kernel
theorem dX8_quotientBits_201 : decode cX8_quotientBits 201 = .ok (.iload 10, 2) := by decide +kernel
theorem dX8_quotientBits_203 : decode cX8_quotientBits 203 = .ok (.i2l, 1) := by decide +kernel
theorem dX8_quotientBits_204 : decode cX8_quotientBits 204 = .ok (.iload 4, 2) := by decide +kernel
theorem dX8_quotientBits_206 : decode cX8_quotientBits 206 = .ok (.lshl, 1) := by decide +kernel
theorem dX8_quotientBits_207 : decode cX8_quotientBits 207 = .ok (.lload 11, 2) := by decide +kernel
theorem dX8_quotientBits_209 : decode cX8_quotientBits 209 = .ok (.ladd, 1) := by decide +kernel
theorem dX8_quotientBits_210 : decode cX8_quotientBits 210 = .ok (.iload 13, 2) := by decide +kernel
theorem dX8_quotientBits_212 : decode cX8_quotientBits 212 = .ok (.ifCond .eq 7, 3) := by decide +kernel
theorem dX8_quotientBits_215 : decode cX8_quotientBits 215 = .ok (.iconst 1, 1) := by decide +kernel
theorem dX8_quotientBits_216 : decode cX8_quotientBits 216 = .ok (.goto 4, 3) := by decide +kernel
theorem dX8_quotientBits_219 : decode cX8_quotientBits 219 = .ok (.iconst 0, 1) := by decide +kernel
theorem dX8_quotientBits_220 : decode cX8_quotientBits 220 = .ok (.i2l, 1) := by decide +kernel
theorem dX8_quotientBits_221 : decode cX8_quotientBits 221 = .ok (.ladd, 1) := by decide +kernel
theorem dX8_quotientBits_222 : decode cX8_quotientBits 222 = .ok (.lreturn, 1) := by decide +kernel
theorem dX8_meanRetainedBits_0 : decode cX8_meanRetainedBits 0 = .ok (.aload_n 0, 1) := by decide +kernel
theorem dX8_meanRetainedBits_1 : decode cX8_meanRetainedBits 1 = .ok (.getfield 10, 3) := by decide +kernel
theorem dX8_meanRetainedBits_4 : decode cX8_meanRetainedBits 4 = .ok (.iload_n 1, 1) := by decide +kernel
theorem dX8_meanRetainedBits_5 : decode cX8_meanRetainedBits 5 = .ok (.invokevirtual 244, 3) := by decide +kernel
theorem dX8_meanRetainedBits_8 : decode cX8_meanRetainedBits 8 = .ok (.invokestatic 100, 3) := by decide +kernel
theorem dX8_meanRetainedBits_11 : decode cX8_meanRetainedBits 11 = .ok (.aload_n 0, 1) := by decide +kernel
theorem dX8_meanRetainedBits_12 : decode cX8_meanRetainedBits 12 = .ok (.getfield 21, 3) := by decide +kernel
theorem dX8_meanRetainedBits_15 : decode cX8_meanRetainedBits 15 = .ok (.invokevirtual 171, 3) := by decide +kernel
theorem dX8_meanRetainedBits_18 : decode cX8_meanRetainedBits 18 = .ok (.aload_n 0, 1) := by decide +kernel
theorem dX8_meanRetainedBits_19 : decode cX8_meanRetainedBits 19 = .ok (.getfield 10, 3) := by decide +kernel
theorem dX8_meanRetainedBits_22 : decode cX8_meanRetainedBits 22 = .ok (.iload_n 1, 1) := by decide +kernel
theorem dX8_meanRetainedBits_23 : decode cX8_meanRetainedBits 23 = .ok (.iconst 0, 1) := by decide +kernel
theorem dX8_meanRetainedBits_24 : decode cX8_meanRetainedBits 24 = .ok (.invokevirtual 247, 3) := by decide +kernel
theorem dX8_meanRetainedBits_27 : decode cX8_meanRetainedBits 27 = .ok (.aload_n 0, 1) := by decide +kernel
theorem dX8_meanRetainedBits_28 : decode cX8_meanRetainedBits 28 = .ok (.getfield 21, 3) := by decide +kernel
theorem dX8_meanRetainedBits_31 : decode cX8_meanRetainedBits 31 = .ok (.getfield 189, 3) := by decide +kernel
theorem dX8_meanRetainedBits_34 : decode cX8_meanRetainedBits 34 = .ok (.getfield 251, 3) := by decide +kernel
theorem dX8_meanRetainedBits_37 : decode cX8_meanRetainedBits 37 = .ok (.land, 1) := by decide +kernel
theorem dX8_meanRetainedBits_38 : decode cX8_meanRetainedBits 38 = .ok (.lstore_n 2, 1) := by decide +kernel
theorem dX8_meanRetainedBits_39 : decode cX8_meanRetainedBits 39 = .ok (.iconst 0, 1) := by decide +kernel
theorem dX8_meanRetainedBits_40 : decode cX8_meanRetainedBits 40 = .ok (.istore 4, 2) := by decide +kernel
theorem dX8_meanRetainedBits_42 : decode cX8_meanRetainedBits 42 = .ok (.iconst 0, 1) := by decide +kernel
theorem dX8_meanRetainedBits_43 : decode cX8_meanRetainedBits 43 = .ok (.istore 5, 2) := by decide +kernel
theorem dX8_meanRetainedBits_45 : decode cX8_meanRetainedBits 45 = .ok (.iload 5, 2) := by decide +kernel
theorem dX8_meanRetainedBits_47 : decode cX8_meanRetainedBits 47 = .ok (.bipush 40, 2) := by decide +kernel
theorem dX8_meanRetainedBits_49 : decode cX8_meanRetainedBits 49 = .ok (.if_icmp .ge 37, 3) := by decide +kernel
theorem dX8_meanRetainedBits_52 : decode cX8_meanRetainedBits 52 = .ok (.iload 4, 2) := by decide +kernel
theorem dX8_meanRetainedBits_54 : decode cX8_meanRetainedBits 54 = .ok (.lload_n 2, 1) := by decide +kernel
theorem dX8_meanRetainedBits_55 : decode cX8_meanRetainedBits 55 = .ok (.iload 5, 2) := by decide +kernel
theorem dX8_meanRetainedBits_57 : decode cX8_meanRetainedBits 57 = .ok (.invokestatic 205, 3) := by decide +kernel
theorem dX8_meanRetainedBits_60 : decode cX8_meanRetainedBits 60 = .ok (.ifCond .eq 16, 3) := by decide +kernel
theorem dX8_meanRetainedBits_63 : decode cX8_meanRetainedBits 63 = .ok (.aload_n 0, 1) := by decide +kernel
theorem dX8_meanRetainedBits_64 : decode cX8_meanRetainedBits 64 = .ok (.getfield 21, 3) := by decide +kernel
theorem dX8_meanRetainedBits_67 : decode cX8_meanRetainedBits 67 = .ok (.getfield 226, 3) := by decide +kernel
theorem dX8_meanRetainedBits_70 : decode cX8_meanRetainedBits 70 = .ok (.iload 5, 2) := by decide +kernel
theorem dX8_meanRetainedBits_72 : decode cX8_meanRetainedBits 72 = .ok (.iaload, 1) := by decide +kernel
theorem dX8_meanRetainedBits_73 : decode cX8_meanRetainedBits 73 = .ok (.goto 4, 3) := by decide +kernel
theorem dX8_meanRetainedBits_76 : decode cX8_meanRetainedBits 76 = .ok (.iconst 0, 1) := by decide +kernel
theorem dX8_meanRetainedBits_77 : decode cX8_meanRetainedBits 77 = .ok (.iadd, 1) := by decide +kernel
theorem dX8_meanRetainedBits_78 : decode cX8_meanRetainedBits 78 = .ok (.istore 4, 2) := by decide +kernel
theorem dX8_meanRetainedBits_80 : decode cX8_meanRetainedBits 80 = .ok (.iinc 5 1, 3) := by decide +kernel
theorem dX8_meanRetainedBits_83 : decode cX8_meanRetainedBits 83 = .ok (.goto (-38), 3) := by decide +kernel
theorem dX8_meanRetainedBits_86 : decode cX8_meanRetainedBits 86 = .ok (.iload 4, 2) := by decide +kernel
theorem dX8_meanRetainedBits_88 : decode cX8_meanRetainedBits 88 = .ok (.i2l, 1) := by decide +kernel
theorem dX8_meanRetainedBits_89 : decode cX8_meanRetainedBits 89 = .ok (.lload_n 2, 1) := by decide +kernel
theorem dX8_meanRetainedBits_90 : decode cX8_meanRetainedBits 90 = .ok (.invokestatic 212, 3) := by decide +kernel
theorem dX8_meanRetainedBits_93 : decode cX8_meanRetainedBits 93 = .ok (.i2l, 1) := by decide +kernel
theorem dX8_meanRetainedBits_94 : decode cX8_meanRetainedBits 94 = .ok (.bipush 52, 2) := by decide +kernel
theorem dX8_meanRetainedBits_96 : decode cX8_meanRetainedBits 96 = .ok (.sipush 1023, 3) := by decide +kernel
theorem dX8_meanRetainedBits_99 : decode cX8_meanRetainedBits 99 = .ok (.invokestatic 261, 3) := by decide +kernel
theorem dX8_meanRetainedBits_102 : decode cX8_meanRetainedBits 102 = .ok (.lreturn, 1) := by decide +kernel
theorem dX8_shareBits_0 : decode cX8_shareBits 0 = .ok (.aload_n 0, 1) := by decide +kernel
theorem dX8_shareBits_1 : decode cX8_shareBits 1 = .ok (.getfield 10, 3) := by decide +kernel
theorem dX8_shareBits_4 : decode cX8_shareBits 4 = .ok (.iload_n 1, 1) := by decide +kernel
theorem dX8_shareBits_5 : decode cX8_shareBits 5 = .ok (.invokevirtual 146, 3) := by decide +kernel
theorem dX8_shareBits_8 : decode cX8_shareBits 8 = .ok (.invokestatic 100, 3) := by decide +kernel
theorem dX8_shareBits_11 : decode cX8_shareBits 11 = .ok (.aload_n 0, 1) := by decide +kernel
theorem dX8_shareBits_12 : decode cX8_shareBits 12 = .ok (.getfield 21, 3) := by decide +kernel
theorem dX8_shareBits_15 : decode cX8_shareBits 15 = .ok (.invokevirtual 171, 3) := by decide +kernel
theorem dX8_shareBits_18 : decode cX8_shareBits 18 = .ok (.aload_n 0, 1) := by decide +kernel
theorem dX8_shareBits_19 : decode cX8_shareBits 19 = .ok (.getfield 21, 3) := by decide +kernel
theorem dX8_shareBits_22 : decode cX8_shareBits 22 = .ok (.getfield 226, 3) := by decide +kernel
theorem dX8_shareBits_25 : decode cX8_shareBits 25 = .ok (.iload_n 1, 1) := by decide +kernel
theorem dX8_shareBits_26 : decode cX8_shareBits 26 = .ok (.iaload, 1) := by decide +kernel
theorem dX8_shareBits_27 : decode cX8_shareBits 27 = .ok (.i2l, 1) := by decide +kernel
theorem dX8_shareBits_28 : decode cX8_shareBits 28 = .ok (.aload_n 0, 1) := by decide +kernel
theorem dX8_shareBits_29 : decode cX8_shareBits 29 = .ok (.getfield 21, 3) := by decide +kernel
theorem dX8_shareBits_32 : decode cX8_shareBits 32 = .ok (.getfield 265, 3) := by decide +kernel
theorem dX8_shareBits_35 : decode cX8_shareBits 35 = .ok (.i2l, 1) := by decide +kernel
theorem dX8_shareBits_36 : decode cX8_shareBits 36 = .ok (.bipush 23, 2) := by decide +kernel
theorem dX8_shareBits_38 : decode cX8_shareBits 38 = .ok (.bipush 127, 2) := by decide +kernel
theorem dX8_shareBits_40 : decode cX8_shareBits 40 = .ok (.invokestatic 261, 3) := by decide +kernel
theorem dX8_shareBits_43 : decode cX8_shareBits 43 = .ok (.l2i, 1) := by decide +kernel
theorem dX8_shareBits_44 : decode cX8_shareBits 44 = .ok (.ireturn, 1) := by decide +kernel
theorem dX8_isPercent_0 : decode cX8_isPercent 0 = .ok (.iload_n 0, 1) := by decide +kernel
theorem dX8_isPercent_1 : decode cX8_isPercent 1 = .ok (.iconst 1, 1) := by decide +kernel
theorem dX8_isPercent_2 : decode cX8_isPercent 2 = .ok (.if_icmp .lt 13, 3) := by decide +kernel
theorem dX8_isPercent_5 : decode cX8_isPercent 5 = .ok (.iload_n 0, 1) := by decide +kernel
theorem dX8_isPercent_6 : decode cX8_isPercent 6 = .ok (.bipush 100, 2) := by decide +kernel
theorem dX8_isPercent_8 : decode cX8_isPercent 8 = .ok (.if_icmp .gt 7, 3) := by decide +kernel
theorem dX8_isPercent_11 : decode cX8_isPercent 11 = .ok (.iconst 1, 1) := by decide +kernel
theorem dX8_isPercent_12 : decode cX8_isPercent 12 = .ok (.goto 4, 3) := by decide +kernel
theorem dX8_isPercent_15 : decode cX8_isPercent 15 = .ok (.iconst 0, 1) := by decide +kernel
theorem dX8_isPercent_16 : decode cX8_isPercent 16 = .ok (.ireturn, 1) := by decide +kernel
theorem dX8_suspectAt_0 : decode cX8_suspectAt 0 = .ok (.iload_n 1, 1) := by decide +kernel
theorem dX8_suspectAt_1 : decode cX8_suspectAt 1 = .ok (.invokestatic 268, 3) := by decide +kernel
theorem dX8_suspectAt_4 : decode cX8_suspectAt 4 = .ok (.ifCond .eq 7, 3) := by decide +kernel
theorem dX8_suspectAt_7 : decode cX8_suspectAt 7 = .ok (.iconst 0, 1) := by decide +kernel
theorem dX8_suspectAt_8 : decode cX8_suspectAt 8 = .ok (.goto 4, 3) := by decide +kernel
theorem dX8_suspectAt_11 : decode cX8_suspectAt 11 = .ok (.iconst 2, 1) := by decide +kernel
theorem dX8_suspectAt_12 : decode cX8_suspectAt 12 = .ok (.invokestatic 74, 3) := by decide +kernel
theorem dX8_suspectAt_15 : decode cX8_suspectAt 15 = .ok (.aload_n 0, 1) := by decide +kernel
theorem dX8_suspectAt_16 : decode cX8_suspectAt 16 = .ok (.getfield 21, 3) := by decide +kernel
theorem dX8_suspectAt_19 : decode cX8_suspectAt 19 = .ok (.invokevirtual 171, 3) := by decide +kernel
theorem dX8_suspectAt_22 : decode cX8_suspectAt 22 = .ok (.aload_n 0, 1) := by decide +kernel
theorem dX8_suspectAt_23 : decode cX8_suspectAt 23 = .ok (.getfield 21, 3) := by decide +kernel
theorem dX8_suspectAt_26 : decode cX8_suspectAt 26 = .ok (.iload_n 1, 1) := by decide +kernel
theorem dX8_suspectAt_27 : decode cX8_suspectAt 27 = .ok (.invokevirtual 271, 3) := by decide +kernel
theorem dX8_suspectAt_30 : decode cX8_suspectAt 30 = .ok (.lstore_n 3, 1) := by decide +kernel
theorem dX8_suspectAt_31 : decode cX8_suspectAt 31 = .ok (.iload_n 2, 1) := by decide +kernel
theorem dX8_suspectAt_32 : decode cX8_suspectAt 32 = .ok (.ifCond .lt 11, 3) := by decide +kernel
theorem dX8_suspectAt_35 : decode cX8_suspectAt 35 = .ok (.iload_n 2, 1) := by decide +kernel
theorem dX8_suspectAt_36 : decode cX8_suspectAt 36 = .ok (.lload_n 3, 1) := by decide +kernel
theorem dX8_suspectAt_37 : decode cX8_suspectAt 37 = .ok (.invokestatic 212, 3) := by decide +kernel
theorem dX8_suspectAt_40 : decode cX8_suspectAt 40 = .ok (.if_icmp .lt 5, 3) := by decide +kernel
theorem dX8_suspectAt_43 : decode cX8_suspectAt 43 = .ok (.iconst (-1), 1) := by decide +kernel
theorem dX8_suspectAt_44 : decode cX8_suspectAt 44 = .ok (.ireturn, 1) := by decide +kernel
theorem dX8_suspectAt_45 : decode cX8_suspectAt 45 = .ok (.iconst (-1), 1) := by decide +kernel
theorem dX8_suspectAt_46 : decode cX8_suspectAt 46 = .ok (.istore 5, 2) := by decide +kernel
theorem dX8_suspectAt_48 : decode cX8_suspectAt 48 = .ok (.iconst 0, 1) := by decide +kernel
theorem dX8_suspectAt_49 : decode cX8_suspectAt 49 = .ok (.istore 6, 2) := by decide +kernel
theorem dX8_suspectAt_51 : decode cX8_suspectAt 51 = .ok (.iload 6, 2) := by decide +kernel
theorem dX8_suspectAt_53 : decode cX8_suspectAt 53 = .ok (.iload_n 2, 1) := by decide +kernel
theorem dX8_suspectAt_54 : decode cX8_suspectAt 54 = .ok (.if_icmp .gt 31, 3) := by decide +kernel
theorem dX8_suspectAt_57 : decode cX8_suspectAt 57 = .ok (.aload_n 0, 1) := by decide +kernel
theorem dX8_suspectAt_58 : decode cX8_suspectAt 58 = .ok (.getfield 21, 3) := by decide +kernel
theorem dX8_suspectAt_61 : decode cX8_suspectAt 61 = .ok (.lload_n 3, 1) := by decide +kernel
theorem dX8_suspectAt_62 : decode cX8_suspectAt 62 = .ok (.invokevirtual 274, 3) := by decide +kernel
theorem dX8_suspectAt_65 : decode cX8_suspectAt 65 = .ok (.istore 5, 2) := by decide +kernel
theorem dX8_suspectAt_67 : decode cX8_suspectAt 67 = .ok (.lload_n 3, 1) := by decide +kernel
theorem dX8_suspectAt_68 : decode cX8_suspectAt 68 = .ok (.iload 5, 2) := by decide +kernel
theorem dX8_suspectAt_70 : decode cX8_suspectAt 70 = .ok (.invokestatic 277, 3) := by decide +kernel
theorem dX8_suspectAt_73 : decode cX8_suspectAt 73 = .ok (.ldc2_w 280, 3) := by decide +kernel
theorem dX8_suspectAt_76 : decode cX8_suspectAt 76 = .ok (.lxor, 1) := by decide +kernel
theorem dX8_suspectAt_77 : decode cX8_suspectAt 77 = .ok (.land, 1) := by decide +kernel
theorem dX8_suspectAt_78 : decode cX8_suspectAt 78 = .ok (.lstore_n 3, 1) := by decide +kernel
theorem dX8_suspectAt_79 : decode cX8_suspectAt 79 = .ok (.iinc 6 1, 3) := by decide +kernel
theorem dX8_suspectAt_82 : decode cX8_suspectAt 82 = .ok (.goto (-31), 3) := by decide +kernel
theorem dX8_suspectAt_85 : decode cX8_suspectAt 85 = .ok (.iload 5, 2) := by decide +kernel
theorem dX8_suspectAt_87 : decode cX8_suspectAt 87 = .ok (.ireturn, 1) := by decide +kernel
theorem dX8_accumulationPoint_0 : decode cX8_accumulationPoint 0 = .ok (.aload_n 0, 1) := by decide +kernel
theorem dX8_accumulationPoint_1 : decode cX8_accumulationPoint 1 = .ok (.getfield 10, 3) := by decide +kernel
theorem dX8_accumulationPoint_4 : decode cX8_accumulationPoint 4 = .ok (.iload_n 1, 1) := by decide +kernel
theorem dX8_accumulationPoint_5 : decode cX8_accumulationPoint 5 = .ok (.invokevirtual 146, 3) := by decide +kernel
theorem dX8_accumulationPoint_8 : decode cX8_accumulationPoint 8 = .ok (.invokestatic 100, 3) := by decide +kernel
theorem dX8_accumulationPoint_11 : decode cX8_accumulationPoint 11 = .ok (.iload_n 2, 1) := by decide +kernel
theorem dX8_accumulationPoint_12 : decode cX8_accumulationPoint 12 = .ok (.invokestatic 268, 3) := by decide +kernel
theorem dX8_accumulationPoint_15 : decode cX8_accumulationPoint 15 = .ok (.ifCond .eq 7, 3) := by decide +kernel
theorem dX8_accumulationPoint_18 : decode cX8_accumulationPoint 18 = .ok (.iconst 0, 1) := by decide +kernel
theorem dX8_accumulationPoint_19 : decode cX8_accumulationPoint 19 = .ok (.goto 4, 3) := by decide +kernel
theorem dX8_accumulationPoint_22 : decode cX8_accumulationPoint 22 = .ok (.iconst 2, 1) := by decide +kernel
theorem dX8_accumulationPoint_23 : decode cX8_accumulationPoint 23 = .ok (.invokestatic 74, 3) := by decide +kernel
theorem dX8_accumulationPoint_26 : decode cX8_accumulationPoint 26 = .ok (.aload_n 0, 1) := by decide +kernel
theorem dX8_accumulationPoint_27 : decode cX8_accumulationPoint 27 = .ok (.getfield 21, 3) := by decide +kernel
theorem dX8_accumulationPoint_30 : decode cX8_accumulationPoint 30 = .ok (.invokevirtual 171, 3) := by decide +kernel
theorem dX8_accumulationPoint_33 : decode cX8_accumulationPoint 33 = .ok (.aload_n 0, 1) := by decide +kernel
theorem dX8_accumulationPoint_34 : decode cX8_accumulationPoint 34 = .ok (.getfield 21, 3) := by decide +kernel
theorem dX8_accumulationPoint_37 : decode cX8_accumulationPoint 37 = .ok (.getfield 189, 3) := by decide +kernel
theorem dX8_accumulationPoint_40 : decode cX8_accumulationPoint 40 = .ok (.getfield 251, 3) := by decide +kernel
theorem dX8_accumulationPoint_43 : decode cX8_accumulationPoint 43 = .ok (.iload_n 1, 1) := by decide +kernel
theorem dX8_accumulationPoint_44 : decode cX8_accumulationPoint 44 = .ok (.invokestatic 205, 3) := by decide +kernel
theorem dX8_accumulationPoint_47 : decode cX8_accumulationPoint 47 = .ok (.ifCond .eq 7, 3) := by decide +kernel
theorem dX8_accumulationPoint_50 : decode cX8_accumulationPoint 50 = .ok (.iconst 0, 1) := by decide +kernel
theorem dX8_accumulationPoint_51 : decode cX8_accumulationPoint 51 = .ok (.goto 4, 3) := by decide +kernel
theorem dX8_accumulationPoint_54 : decode cX8_accumulationPoint 54 = .ok (.iconst 3, 1) := by decide +kernel
theorem dX8_accumulationPoint_55 : decode cX8_accumulationPoint 55 = .ok (.invokestatic 74, 3) := by decide +kernel
theorem dX8_accumulationPoint_58 : decode cX8_accumulationPoint 58 = .ok (.aload_n 0, 1) := by decide +kernel
theorem dX8_accumulationPoint_59 : decode cX8_accumulationPoint 59 = .ok (.getfield 21, 3) := by decide +kernel
theorem dX8_accumulationPoint_62 : decode cX8_accumulationPoint 62 = .ok (.iload_n 1, 1) := by decide +kernel
theorem dX8_accumulationPoint_63 : decode cX8_accumulationPoint 63 = .ok (.iload_n 2, 1) := by decide +kernel
theorem dX8_accumulationPoint_64 : decode cX8_accumulationPoint 64 = .ok (.invokevirtual 282, 3) := by decide +kernel
theorem dX8_accumulationPoint_67 : decode cX8_accumulationPoint 67 = .ok (.ireturn, 1) := by decide +kernel
theorem dX8_append_0 : decode cX8_append 0 = .ok (.iload_n 1, 1) := by decide +kernel
theorem dX8_append_1 : decode cX8_append 1 = .ok (.ifCond .lt 13, 3) := by decide +kernel
theorem dX8_append_4 : decode cX8_append 4 = .ok (.iload_n 1, 1) := by decide +kernel
theorem dX8_append_5 : decode cX8_append 5 = .ok (.bipush 127, 2) := by decide +kernel
theorem dX8_append_7 : decode cX8_append 7 = .ok (.if_icmp .gt 7, 3) := by decide +kernel
theorem dX8_append_10 : decode cX8_append 10 = .ok (.iconst 0, 1) := by decide +kernel
theorem dX8_append_11 : decode cX8_append 11 = .ok (.goto 4, 3) := by decide +kernel
theorem dX8_append_14 : decode cX8_append 14 = .ok (.iconst 2, 1) := by decide +kernel
theorem dX8_append_15 : decode cX8_append 15 = .ok (.invokestatic 74, 3) := by decide +kernel
theorem dX8_append_18 : decode cX8_append 18 = .ok (.aload_n 0, 1) := by decide +kernel
theorem dX8_append_19 : decode cX8_append 19 = .ok (.getfield 35, 3) := by decide +kernel
theorem dX8_append_22 : decode cX8_append 22 = .ok (.getfield 285, 3) := by decide +kernel
theorem dX8_append_25 : decode cX8_append 25 = .ok (.bipush 100, 2) := by decide +kernel
theorem dX8_append_27 : decode cX8_append 27 = .ok (.if_icmp .ge 7, 3) := by decide +kernel
theorem dX8_append_30 : decode cX8_append 30 = .ok (.iconst 0, 1) := by decide +kernel
theorem dX8_append_31 : decode cX8_append 31 = .ok (.goto 4, 3) := by decide +kernel
theorem dX8_append_34 : decode cX8_append 34 = .ok (.iconst 3, 1) := by decide +kernel
theorem dX8_append_35 : decode cX8_append 35 = .ok (.invokestatic 74, 3) := by decide +kernel
theorem dX8_append_38 : decode cX8_append 38 = .ok (.aload_n 0, 1) := by decide +kernel
theorem dX8_append_39 : decode cX8_append 39 = .ok (.getfield 35, 3) := by decide +kernel
theorem dX8_append_42 : decode cX8_append 42 = .ok (.iload_n 1, 1) := by decide +kernel
theorem dX8_append_43 : decode cX8_append 43 = .ok (.invokevirtual 288, 3) := by decide +kernel
theorem dX8_append_46 : decode cX8_append 46 = .ok (.aload_n 0, 1) := by decide +kernel
theorem dX8_append_47 : decode cX8_append 47 = .ok (.getfield 35, 3) := by decide +kernel
theorem dX8_append_50 : decode cX8_append 50 = .ok (.getfield 285, 3) := by decide +kernel
theorem dX8_append_53 : decode cX8_append 53 = .ok (.ireturn, 1) := by decide +kernel
theorem dX8_clearText_0 : decode cX8_clearText 0 = .ok (.aload_n 0, 1) := by decide +kernel
theorem dX8_clearText_1 : decode cX8_clearText 1 = .ok (.getfield 35, 3) := by decide +kernel
theorem dX8_clearText_4 : decode cX8_clearText 4 = .ok (.getfield 285, 3) := by decide +kernel
theorem dX8_clearText_7 : decode cX8_clearText 7 = .ok (.istore_n 1, 1) := by decide +kernel
theorem dX8_clearText_8 : decode cX8_clearText 8 = .ok (.aload_n 0, 1) := by decide +kernel
theorem dX8_clearText_9 : decode cX8_clearText 9 = .ok (.getfield 35, 3) := by decide +kernel
theorem dX8_clearText_12 : decode cX8_clearText 12 = .ok (.iconst 0, 1) := by decide +kernel
theorem dX8_clearText_13 : decode cX8_clearText 13 = .ok (.putfield 285, 3) := by decide +kernel
theorem dX8_clearText_16 : decode cX8_clearText 16 = .ok (.iload_n 1, 1) := by decide +kernel
theorem dX8_clearText_17 : decode cX8_clearText 17 = .ok (.ireturn, 1) := by decide +kernel
theorem dX8_matches_0 : decode cX8_matches 0 = .ok (.aload_n 0, 1) := by decide +kernel
theorem dX8_matches_1 : decode cX8_matches 1 = .ok (.getfield 44, 3) := by decide +kernel
theorem dX8_matches_4 : decode cX8_matches 4 = .ok (.invokevirtual 291, 3) := by decide +kernel
theorem dX8_matches_7 : decode cX8_matches 7 = .ok (.lstore_n 1, 1) := by decide +kernel
theorem dX8_matches_8 : decode cX8_matches 8 = .ok (.aload_n 0, 1) := by decide +kernel
theorem dX8_matches_9 : decode cX8_matches 9 = .ok (.getfield 35, 3) := by decide +kernel
theorem dX8_matches_12 : decode cX8_matches 12 = .ok (.getfield 295, 3) := by decide +kernel
theorem dX8_matches_15 : decode cX8_matches 15 = .ok (.ifCond .eq 16, 3) := by decide +kernel
theorem dX8_matches_18 : decode cX8_matches 18 = .ok (.bipush (-10), 2) := by decide +kernel
theorem dX8_matches_20 : decode cX8_matches 20 = .ok (.aload_n 0, 1) := by decide +kernel
theorem dX8_matches_21 : decode cX8_matches 21 = .ok (.getfield 35, 3) := by decide +kernel
theorem dX8_matches_24 : decode cX8_matches 24 = .ok (.getfield 299, 3) := by decide +kernel
theorem dX8_matches_27 : decode cX8_matches 27 = .ok (.isub, 1) := by decide +kernel
theorem dX8_matches_28 : decode cX8_matches 28 = .ok (.goto 7, 3) := by decide +kernel
theorem dX8_matches_31 : decode cX8_matches 31 = .ok (.lload_n 1, 1) := by decide +kernel
theorem dX8_matches_32 : decode cX8_matches 32 = .ok (.invokestatic 212, 3) := by decide +kernel
theorem dX8_matches_35 : decode cX8_matches 35 = .ok (.ireturn, 1) := by decide +kernel
theorem dX8_matchAt_0 : decode cX8_matchAt 0 = .ok (.aload_n 0, 1) := by decide +kernel
theorem dX8_matchAt_1 : decode cX8_matchAt 1 = .ok (.getfield 44, 3) := by decide +kernel
theorem dX8_matchAt_4 : decode cX8_matchAt 4 = .ok (.invokevirtual 291, 3) := by decide +kernel
theorem dX8_matchAt_7 : decode cX8_matchAt 7 = .ok (.lstore_n 2, 1) := by decide +kernel
theorem dX8_matchAt_8 : decode cX8_matchAt 8 = .ok (.aload_n 0, 1) := by decide +kernel
theorem dX8_matchAt_9 : decode cX8_matchAt 9 = .ok (.getfield 35, 3) := by decide +kernel
theorem dX8_matchAt_12 : decode cX8_matchAt 12 = .ok (.getfield 295, 3) := by decide +kernel
theorem dX8_matchAt_15 : decode cX8_matchAt 15 = .ok (.ifCond .eq 16, 3) := by decide +kernel
theorem dX8_matchAt_18 : decode cX8_matchAt 18 = .ok (.bipush (-10), 2) := by decide +kernel
theorem dX8_matchAt_20 : decode cX8_matchAt 20 = .ok (.aload_n 0, 1) := by decide +kernel
theorem dX8_matchAt_21 : decode cX8_matchAt 21 = .ok (.getfield 35, 3) := by decide +kernel
theorem dX8_matchAt_24 : decode cX8_matchAt 24 = .ok (.getfield 299, 3) := by decide +kernel
theorem dX8_matchAt_27 : decode cX8_matchAt 27 = .ok (.isub, 1) := by decide +kernel
theorem dX8_matchAt_28 : decode cX8_matchAt 28 = .ok (.goto 8, 3) := by decide +kernel
theorem dX8_matchAt_31 : decode cX8_matchAt 31 = .ok (.lload_n 2, 1) := by decide +kernel
theorem dX8_matchAt_32 : decode cX8_matchAt 32 = .ok (.iload_n 1, 1) := by decide +kernel
theorem dX8_matchAt_33 : decode cX8_matchAt 33 = .ok (.invokestatic 222, 3) := by decide +kernel
theorem dX8_matchAt_36 : decode cX8_matchAt 36 = .ok (.ireturn, 1) := by decide +kernel
theorem dX8_matchSize_0 : decode cX8_matchSize 0 = .ok (.aload_n 0, 1) := by decide +kernel
theorem dX8_matchSize_1 : decode cX8_matchSize 1 = .ok (.getfield 44, 3) := by decide +kernel
theorem dX8_matchSize_4 : decode cX8_matchSize 4 = .ok (.invokevirtual 291, 3) := by decide +kernel
theorem dX8_matchSize_7 : decode cX8_matchSize 7 = .ok (.lstore_n 2, 1) := by decide +kernel
theorem dX8_matchSize_8 : decode cX8_matchSize 8 = .ok (.aload_n 0, 1) := by decide +kernel
theorem dX8_matchSize_9 : decode cX8_matchSize 9 = .ok (.getfield 35, 3) := by decide +kernel
theorem dX8_matchSize_12 : decode cX8_matchSize 12 = .ok (.getfield 295, 3) := by decide +kernel
theorem dX8_matchSize_15 : decode cX8_matchSize 15 = .ok (.ifCond .eq 14, 3) := by decide +kernel
theorem dX8_matchSize_18 : decode cX8_matchSize 18 = .ok (.bipush (-10), 2) := by decide +kernel
theorem dX8_matchSize_20 : decode cX8_matchSize 20 = .ok (.aload_n 0, 1) := by decide +kernel
theorem dX8_matchSize_21 : decode cX8_matchSize 21 = .ok (.getfield 35, 3) := by decide +kernel
theorem dX8_matchSize_24 : decode cX8_matchSize 24 = .ok (.getfield 299, 3) := by decide +kernel
theorem dX8_matchSize_27 : decode cX8_matchSize 27 = .ok (.isub, 1) := by decide +kernel
theorem dX8_matchSize_28 : decode cX8_matchSize 28 = .ok (.ireturn, 1) := by decide +kernel
theorem dX8_matchSize_29 : decode cX8_matchSize 29 = .ok (.iload_n 1, 1) := by decide +kernel
theorem dX8_matchSize_30 : decode cX8_matchSize 30 = .ok (.ifCond .eq 14, 3) := by decide +kernel
theorem dX8_matchSize_33 : decode cX8_matchSize 33 = .ok (.aload_n 0, 1) := by decide +kernel
theorem dX8_matchSize_34 : decode cX8_matchSize 34 = .ok (.getfield 21, 3) := by decide +kernel
theorem dX8_matchSize_37 : decode cX8_matchSize 37 = .ok (.lload_n 2, 1) := by decide +kernel
theorem dX8_matchSize_38 : decode cX8_matchSize 38 = .ok (.invokevirtual 258, 3) := by decide +kernel
theorem dX8_matchSize_41 : decode cX8_matchSize 41 = .ok (.goto 11, 3) := by decide +kernel
theorem dX8_matchSize_44 : decode cX8_matchSize 44 = .ok (.aload_n 0, 1) := by decide +kernel
theorem dX8_matchSize_45 : decode cX8_matchSize 45 = .ok (.getfield 10, 3) := by decide +kernel
theorem dX8_matchSize_48 : decode cX8_matchSize 48 = .ok (.lload_n 2, 1) := by decide +kernel
theorem dX8_matchSize_49 : decode cX8_matchSize 49 = .ok (.invokevirtual 255, 3) := by decide +kernel
theorem dX8_matchSize_52 : decode cX8_matchSize 52 = .ok (.ireturn, 1) := by decide +kernel
theorem dX8_execute_0 : decode cX8_execute 0 = .ok (.aload_n 0, 1) := by decide +kernel
theorem dX8_execute_1 : decode cX8_execute 1 = .ok (.getfield 51, 3) := by decide +kernel
theorem dX8_execute_4 : decode cX8_execute 4 = .ok (.invokevirtual 302, 3) := by decide +kernel
theorem dX8_execute_7 : decode cX8_execute 7 = .ok (.aload_n 0, 1) := by decide +kernel
theorem dX8_execute_8 : decode cX8_execute 8 = .ok (.getfield 35, 3) := by decide +kernel
theorem dX8_execute_11 : decode cX8_execute 11 = .ok (.getfield 295, 3) := by decide +kernel
theorem dX8_execute_14 : decode cX8_execute 14 = .ok (.ifCond .eq 14, 3) := by decide +kernel
theorem dX8_execute_17 : decode cX8_execute 17 = .ok (.bipush (-10), 2) := by decide +kernel
theorem dX8_execute_19 : decode cX8_execute 19 = .ok (.aload_n 0, 1) := by decide +kernel
theorem dX8_execute_20 : decode cX8_execute 20 = .ok (.getfield 35, 3) := by decide +kernel
theorem dX8_execute_23 : decode cX8_execute 23 = .ok (.getfield 299, 3) := by decide +kernel
theorem dX8_execute_26 : decode cX8_execute 26 = .ok (.isub, 1) := by decide +kernel
theorem dX8_execute_27 : decode cX8_execute 27 = .ok (.ireturn, 1) := by decide +kernel
theorem dX8_execute_28 : decode cX8_execute 28 = .ok (.aload_n 0, 1) := by decide +kernel
theorem dX8_execute_29 : decode cX8_execute 29 = .ok (.getfield 28, 3) := by decide +kernel
theorem dX8_execute_32 : decode cX8_execute 32 = .ok (.aload_n 0, 1) := by decide +kernel
theorem dX8_execute_33 : decode cX8_execute 33 = .ok (.getfield 10, 3) := by decide +kernel
theorem dX8_execute_36 : decode cX8_execute 36 = .ok (.invokevirtual 305, 3) := by decide +kernel
theorem dX8_execute_39 : decode cX8_execute 39 = .ok (.aload_n 0, 1) := by decide +kernel
theorem dX8_execute_40 : decode cX8_execute 40 = .ok (.getfield 51, 3) := by decide +kernel
theorem dX8_execute_43 : decode cX8_execute 43 = .ok (.invokevirtual 308, 3) := by decide +kernel
theorem dX8_execute_46 : decode cX8_execute 46 = .ok (.istore_n 1, 1) := by decide +kernel
theorem dX8_execute_47 : decode cX8_execute 47 = .ok (.iload_n 1, 1) := by decide +kernel
theorem dX8_execute_48 : decode cX8_execute 48 = .ok (.iconst (-1), 1) := by decide +kernel
theorem dX8_execute_49 : decode cX8_execute 49 = .ok (.if_icmp .eq 23, 3) := by decide +kernel
theorem dX8_execute_52 : decode cX8_execute 52 = .ok (.aload_n 0, 1) := by decide +kernel
theorem dX8_execute_53 : decode cX8_execute 53 = .ok (.getfield 10, 3) := by decide +kernel
theorem dX8_execute_56 : decode cX8_execute 56 = .ok (.aload_n 0, 1) := by decide +kernel
theorem dX8_execute_57 : decode cX8_execute 57 = .ok (.getfield 28, 3) := by decide +kernel
theorem dX8_execute_60 : decode cX8_execute 60 = .ok (.invokevirtual 311, 3) := by decide +kernel
theorem dX8_execute_63 : decode cX8_execute 63 = .ok (.invokevirtual 315, 3) := by decide +kernel
theorem dX8_execute_66 : decode cX8_execute 66 = .ok (.sipush (-1000), 3) := by decide +kernel
theorem dX8_execute_69 : decode cX8_execute 69 = .ok (.iload_n 1, 1) := by decide +kernel
theorem dX8_execute_70 : decode cX8_execute 70 = .ok (.isub, 1) := by decide +kernel
theorem dX8_execute_71 : decode cX8_execute 71 = .ok (.ireturn, 1) := by decide +kernel
theorem dX8_execute_72 : decode cX8_execute 72 = .ok (.aload_n 0, 1) := by decide +kernel
theorem dX8_execute_73 : decode cX8_execute 73 = .ok (.getfield 28, 3) := by decide +kernel
theorem dX8_execute_76 : decode cX8_execute 76 = .ok (.invokevirtual 318, 3) := by decide +kernel
theorem dX8_execute_79 : decode cX8_execute 79 = .ok (.aload_n 0, 1) := by decide +kernel
theorem dX8_execute_80 : decode cX8_execute 80 = .ok (.getfield 51, 3) := by decide +kernel
theorem dX8_execute_83 : decode cX8_execute 83 = .ok (.getfield 321, 3) := by decide +kernel
theorem dX8_execute_86 : decode cX8_execute 86 = .ok (.ireturn, 1) := by decide +kernel
theorem dX8_isPicture_0 : decode cX8_isPicture 0 = .ok (.iload_n 0, 1) := by decide +kernel
theorem dX8_isPicture_1 : decode cX8_isPicture 1 = .ok (.ifCond .lt 12, 3) := by decide +kernel
theorem dX8_isPicture_4 : decode cX8_isPicture 4 = .ok (.iload_n 0, 1) := by decide +kernel
theorem dX8_isPicture_5 : decode cX8_isPicture 5 = .ok (.iconst 2, 1) := by decide +kernel
theorem dX8_isPicture_6 : decode cX8_isPicture 6 = .ok (.if_icmp .ge 7, 3) := by decide +kernel
theorem dX8_isPicture_9 : decode cX8_isPicture 9 = .ok (.iconst 1, 1) := by decide +kernel
theorem dX8_isPicture_10 : decode cX8_isPicture 10 = .ok (.goto 4, 3) := by decide +kernel
theorem dX8_isPicture_13 : decode cX8_isPicture 13 = .ok (.iconst 0, 1) := by decide +kernel
theorem dX8_isPicture_14 : decode cX8_isPicture 14 = .ok (.ireturn, 1) := by decide +kernel
theorem dX8_take_0 : decode cX8_take 0 = .ok (.iload_n 1, 1) := by decide +kernel
theorem dX8_take_1 : decode cX8_take 1 = .ok (.invokestatic 324, 3) := by decide +kernel
theorem dX8_take_4 : decode cX8_take 4 = .ok (.invokestatic 100, 3) := by decide +kernel
theorem dX8_take_7 : decode cX8_take 7 = .ok (.aload_n 0, 1) := by decide +kernel
theorem dX8_take_8 : decode cX8_take 8 = .ok (.getfield 62, 3) := by decide +kernel
theorem dX8_take_11 : decode cX8_take 11 = .ok (.iload_n 1, 1) := by decide +kernel
theorem dX8_take_12 : decode cX8_take 12 = .ok (.aaload, 1) := by decide +kernel
theorem dX8_take_13 : decode cX8_take 13 = .ok (.aload_n 0, 1) := by decide +kernel
theorem dX8_take_14 : decode cX8_take 14 = .ok (.getfield 10, 3) := by decide +kernel
theorem dX8_take_17 : decode cX8_take 17 = .ok (.invokevirtual 315, 3) := by decide +kernel
theorem dX8_take_20 : decode cX8_take 20 = .ok (.aload_n 0, 1) := by decide +kernel
theorem dX8_take_21 : decode cX8_take 21 = .ok (.getfield 66, 3) := by decide +kernel
theorem dX8_take_24 : decode cX8_take 24 = .ok (.iload_n 1, 1) := by decide +kernel
theorem dX8_take_25 : decode cX8_take 25 = .ok (.iconst 1, 1) := by decide +kernel
theorem dX8_take_26 : decode cX8_take 26 = .ok (.bastore, 1) := by decide +kernel
theorem dX8_take_27 : decode cX8_take 27 = .ok (.aload_n 0, 1) := by decide +kernel
theorem dX8_take_28 : decode cX8_take 28 = .ok (.getfield 10, 3) := by decide +kernel
theorem dX8_take_31 : decode cX8_take 31 = .ok (.invokevirtual 168, 3) := by decide +kernel
theorem dX8_take_34 : decode cX8_take 34 = .ok (.ireturn, 1) := by decide +kernel
theorem dX8_compare_0 : decode cX8_compare 0 = .ok (.iload_n 1, 1) := by decide +kernel
theorem dX8_compare_1 : decode cX8_compare 1 = .ok (.invokestatic 324, 3) := by decide +kernel
theorem dX8_compare_4 : decode cX8_compare 4 = .ok (.iload_n 2, 1) := by decide +kernel
theorem dX8_compare_5 : decode cX8_compare 5 = .ok (.iconst 3, 1) := by decide +kernel
theorem dX8_compare_6 : decode cX8_compare 6 = .ok (.invokestatic 92, 3) := by decide +kernel
theorem dX8_compare_9 : decode cX8_compare 9 = .ok (.invokestatic 74, 3) := by decide +kernel
theorem dX8_compare_12 : decode cX8_compare 12 = .ok (.aload_n 0, 1) := by decide +kernel
theorem dX8_compare_13 : decode cX8_compare 13 = .ok (.getfield 66, 3) := by decide +kernel
theorem dX8_compare_16 : decode cX8_compare 16 = .ok (.iload_n 1, 1) := by decide +kernel
theorem dX8_compare_17 : decode cX8_compare 17 = .ok (.baload, 1) := by decide +kernel
theorem dX8_compare_18 : decode cX8_compare 18 = .ok (.ifCond .eq 7, 3) := by decide +kernel
theorem dX8_compare_21 : decode cX8_compare 21 = .ok (.iconst 0, 1) := by decide +kernel
theorem dX8_compare_22 : decode cX8_compare 22 = .ok (.goto 4, 3) := by decide +kernel
theorem dX8_compare_25 : decode cX8_compare 25 = .ok (.iconst 3, 1) := by decide +kernel
theorem dX8_compare_26 : decode cX8_compare 26 = .ok (.invokestatic 74, 3) := by decide +kernel
theorem dX8_compare_29 : decode cX8_compare 29 = .ok (.aload_n 0, 1) := by decide +kernel
theorem dX8_compare_30 : decode cX8_compare 30 = .ok (.getfield 62, 3) := by decide +kernel
theorem dX8_compare_33 : decode cX8_compare 33 = .ok (.iload_n 1, 1) := by decide +kernel
theorem dX8_compare_34 : decode cX8_compare 34 = .ok (.aaload, 1) := by decide +kernel
theorem dX8_compare_35 : decode cX8_compare 35 = .ok (.astore_n 3, 1) := by decide +kernel
theorem dX8_compare_36 : decode cX8_compare 36 = .ok (.iload_n 2, 1) := by decide +kernel
theorem dX8_compare_37 : decode cX8_compare 37 = .ok (.tableswitch 54 0 2 #[27, 36, 45], 27) := by decide +kernel
theorem dX8_compare_64 : decode cX8_compare 64 = .ok (.aload_n 0, 1) := by decide +kernel
theorem dX8_compare_65 : decode cX8_compare 65 = .ok (.getfield 10, 3) := by decide +kernel
theorem dX8_compare_68 : decode cX8_compare 68 = .ok (.aload_n 3, 1) := by decide +kernel
theorem dX8_compare_69 : decode cX8_compare 69 = .ok (.invokevirtual 327, 3) := by decide +kernel
theorem dX8_compare_72 : decode cX8_compare 72 = .ok (.ireturn, 1) := by decide +kernel
theorem dX8_compare_73 : decode cX8_compare 73 = .ok (.aload_n 3, 1) := by decide +kernel
theorem dX8_compare_74 : decode cX8_compare 74 = .ok (.aload_n 0, 1) := by decide +kernel
theorem dX8_compare_75 : decode cX8_compare 75 = .ok (.getfield 10, 3) := by decide +kernel
theorem dX8_compare_78 : decode cX8_compare 78 = .ok (.invokevirtual 327, 3) := by decide +kernel
theorem dX8_compare_81 : decode cX8_compare 81 = .ok (.ireturn, 1) := by decide +kernel
theorem dX8_compare_82 : decode cX8_compare 82 = .ok (.aload_n 0, 1) := by decide +kernel
theorem dX8_compare_83 : decode cX8_compare 83 = .ok (.getfield 10, 3) := by decide +kernel
theorem dX8_compare_86 : decode cX8_compare 86 = .ok (.aload_n 3, 1) := by decide +kernel
theorem dX8_compare_87 : decode cX8_compare 87 = .ok (.invokevirtual 331, 3) := by decide +kernel
theorem dX8_compare_90 : decode cX8_compare 90 = .ok (.ireturn, 1) := by decide +kernel
theorem dX8_compare_91 : decode cX8_compare 91 = .ok (.aload_n 0, 1) := by decide +kernel
theorem dX8_compare_92 : decode cX8_compare 92 = .ok (.getfield 10, 3) := by decide +kernel
theorem dX8_compare_95 : decode cX8_compare 95 = .ok (.aload_n 0, 1) := by decide +kernel
theorem dX8_compare_96 : decode cX8_compare 96 = .ok (.getfield 10, 3) := by decide +kernel
theorem dX8_compare_99 : decode cX8_compare 99 = .ok (.invokevirtual 334, 3) := by decide +kernel
theorem dX8_compare_102 : decode cX8_compare 102 = .ok (.invokevirtual 255, 3) := by decide +kernel
theorem dX8_compare_105 : decode cX8_compare 105 = .ok (.aload_n 3, 1) := by decide +kernel
theorem dX8_compare_106 : decode cX8_compare 106 = .ok (.aload_n 3, 1) := by decide +kernel
theorem dX8_compare_107 : decode cX8_compare 107 = .ok (.invokevirtual 334, 3) := by decide +kernel
theorem dX8_compare_110 : decode cX8_compare 110 = .ok (.invokevirtual 255, 3) := by decide +kernel
theorem dX8_compare_113 : decode cX8_compare 113 = .ok (.isub, 1) := by decide +kernel
theorem dX8_compare_114 : decode cX8_compare 114 = .ok (.ireturn, 1) := by decide +kernel
theorem dX8_growth_0 : decode cX8_growth 0 = .ok (.iload_n 1, 1) := by decide +kernel
theorem dX8_growth_1 : decode cX8_growth 1 = .ok (.invokestatic 324, 3) := by decide +kernel
theorem dX8_growth_4 : decode cX8_growth 4 = .ok (.ifCond .eq 17, 3) := by decide +kernel
theorem dX8_growth_7 : decode cX8_growth 7 = .ok (.iload_n 2, 1) := by decide +kernel
theorem dX8_growth_8 : decode cX8_growth 8 = .ok (.ifCond .lt 13, 3) := by decide +kernel
theorem dX8_growth_11 : decode cX8_growth 11 = .ok (.iload_n 2, 1) := by decide +kernel
theorem dX8_growth_12 : decode cX8_growth 12 = .ok (.bipush 11, 2) := by decide +kernel
theorem dX8_growth_14 : decode cX8_growth 14 = .ok (.if_icmp .gt 7, 3) := by decide +kernel
theorem dX8_growth_17 : decode cX8_growth 17 = .ok (.iconst 1, 1) := by decide +kernel
theorem dX8_growth_18 : decode cX8_growth 18 = .ok (.goto 4, 3) := by decide +kernel
theorem dX8_growth_21 : decode cX8_growth 21 = .ok (.iconst 0, 1) := by decide +kernel
theorem dX8_growth_22 : decode cX8_growth 22 = .ok (.invokestatic 100, 3) := by decide +kernel
theorem dX8_growth_25 : decode cX8_growth 25 = .ok (.aload_n 0, 1) := by decide +kernel
theorem dX8_growth_26 : decode cX8_growth 26 = .ok (.getfield 66, 3) := by decide +kernel
theorem dX8_growth_29 : decode cX8_growth 29 = .ok (.iload_n 1, 1) := by decide +kernel
theorem dX8_growth_30 : decode cX8_growth 30 = .ok (.baload, 1) := by decide +kernel
theorem dX8_growth_31 : decode cX8_growth 31 = .ok (.ifCond .eq 7, 3) := by decide +kernel
theorem dX8_growth_34 : decode cX8_growth 34 = .ok (.iconst 0, 1) := by decide +kernel
theorem dX8_growth_35 : decode cX8_growth 35 = .ok (.goto 4, 3) := by decide +kernel
theorem dX8_growth_38 : decode cX8_growth 38 = .ok (.iconst 3, 1) := by decide +kernel
theorem dX8_growth_39 : decode cX8_growth 39 = .ok (.invokestatic 74, 3) := by decide +kernel
theorem dX8_growth_42 : decode cX8_growth 42 = .ok (.aload_n 0, 1) := by decide +kernel
theorem dX8_growth_43 : decode cX8_growth 43 = .ok (.getfield 10, 3) := by decide +kernel
theorem dX8_growth_46 : decode cX8_growth 46 = .ok (.iload_n 2, 1) := by decide +kernel
theorem dX8_growth_47 : decode cX8_growth 47 = .ok (.iconst 0, 1) := by decide +kernel
theorem dX8_growth_48 : decode cX8_growth 48 = .ok (.invokevirtual 247, 3) := by decide +kernel
theorem dX8_growth_51 : decode cX8_growth 51 = .ok (.invokestatic 212, 3) := by decide +kernel
theorem dX8_growth_54 : decode cX8_growth 54 = .ok (.aload_n 0, 1) := by decide +kernel
theorem dX8_growth_55 : decode cX8_growth 55 = .ok (.getfield 62, 3) := by decide +kernel
theorem dX8_growth_58 : decode cX8_growth 58 = .ok (.iload_n 1, 1) := by decide +kernel
theorem dX8_growth_59 : decode cX8_growth 59 = .ok (.aaload, 1) := by decide +kernel
theorem dX8_growth_60 : decode cX8_growth 60 = .ok (.iload_n 2, 1) := by decide +kernel
theorem dX8_growth_61 : decode cX8_growth 61 = .ok (.iconst 0, 1) := by decide +kernel
theorem dX8_growth_62 : decode cX8_growth 62 = .ok (.invokevirtual 247, 3) := by decide +kernel
theorem dX8_growth_65 : decode cX8_growth 65 = .ok (.invokestatic 212, 3) := by decide +kernel
theorem dX8_growth_68 : decode cX8_growth 68 = .ok (.isub, 1) := by decide +kernel
theorem dX8_growth_69 : decode cX8_growth 69 = .ok (.ireturn, 1) := by decide +kernel
theorem dX8_undo_0 : decode cX8_undo 0 = .ok (.aload_n 0, 1) := by decide +kernel
theorem dX8_undo_1 : decode cX8_undo 1 = .ok (.getfield 28, 3) := by decide +kernel
theorem dX8_undo_4 : decode cX8_undo 4 = .ok (.getfield 337, 3) := by decide +kernel
theorem dX8_undo_7 : decode cX8_undo 7 = .ok (.ifCond .le 7, 3) := by decide +kernel
theorem dX8_undo_10 : decode cX8_undo 10 = .ok (.iconst 0, 1) := by decide +kernel
theorem dX8_undo_11 : decode cX8_undo 11 = .ok (.goto 4, 3) := by decide +kernel
theorem dX8_undo_14 : decode cX8_undo 14 = .ok (.iconst 3, 1) := by decide +kernel
theorem dX8_undo_15 : decode cX8_undo 15 = .ok (.invokestatic 74, 3) := by decide +kernel
theorem dX8_undo_18 : decode cX8_undo 18 = .ok (.aload_n 0, 1) := by decide +kernel
theorem dX8_undo_19 : decode cX8_undo 19 = .ok (.getfield 10, 3) := by decide +kernel
theorem dX8_undo_22 : decode cX8_undo 22 = .ok (.aload_n 0, 1) := by decide +kernel
theorem dX8_undo_23 : decode cX8_undo 23 = .ok (.getfield 28, 3) := by decide +kernel
theorem dX8_undo_26 : decode cX8_undo 26 = .ok (.invokevirtual 338, 3) := by decide +kernel
theorem dX8_undo_29 : decode cX8_undo 29 = .ok (.invokevirtual 315, 3) := by decide +kernel
theorem dX8_undo_32 : decode cX8_undo 32 = .ok (.aload_n 0, 1) := by decide +kernel
theorem dX8_undo_33 : decode cX8_undo 33 = .ok (.getfield 28, 3) := by decide +kernel
theorem dX8_undo_36 : decode cX8_undo 36 = .ok (.invokevirtual 341, 3) := by decide +kernel
theorem dX8_undo_39 : decode cX8_undo 39 = .ok (.aload_n 0, 1) := by decide +kernel
theorem dX8_undo_40 : decode cX8_undo 40 = .ok (.getfield 28, 3) := by decide +kernel
theorem dX8_undo_43 : decode cX8_undo 43 = .ok (.getfield 337, 3) := by decide +kernel
theorem dX8_undo_46 : decode cX8_undo 46 = .ok (.ireturn, 1) := by decide +kernel
theorem dX8_mixed_0 : decode cX8_mixed 0 = .ok (.ldc2_w 357, 3) := by decide +kernel
theorem dX8_mixed_3 : decode cX8_mixed 3 = .ok (.lload_n 0, 1) := by decide +kernel
theorem dX8_mixed_4 : decode cX8_mixed 4 = .ok (.lmul, 1) := by decide +kernel
theorem dX8_mixed_5 : decode cX8_mixed 5 = .ok (.lload_n 2, 1) := by decide +kernel
theorem dX8_mixed_6 : decode cX8_mixed 6 = .ok (.ladd, 1) := by decide +kernel
theorem dX8_mixed_7 : decode cX8_mixed 7 = .ok (.lreturn, 1) := by decide +kernel
theorem dX8_mixedWithObject_0 : decode cX8_mixedWithObject 0 = .ok (.lload_n 1, 1) := by decide +kernel
theorem dX8_mixedWithObject_1 : decode cX8_mixedWithObject 1 = .ok (.iload_n 3, 1) := by decide +kernel
theorem dX8_mixedWithObject_2 : decode cX8_mixedWithObject 2 = .ok (.i2l, 1) := by decide +kernel
theorem dX8_mixedWithObject_3 : decode cX8_mixedWithObject 3 = .ok (.invokestatic 346, 3) := by decide +kernel
theorem dX8_mixedWithObject_6 : decode cX8_mixedWithObject 6 = .ok (.lstore 4, 2) := by decide +kernel
theorem dX8_mixedWithObject_8 : decode cX8_mixedWithObject 8 = .ok (.iconst 0, 1) := by decide +kernel
theorem dX8_mixedWithObject_9 : decode cX8_mixedWithObject 9 = .ok (.istore 6, 2) := by decide +kernel
theorem dX8_mixedWithObject_11 : decode cX8_mixedWithObject 11 = .ok (.iload 6, 2) := by decide +kernel
theorem dX8_mixedWithObject_13 : decode cX8_mixedWithObject 13 = .ok (.iconst 5, 1) := by decide +kernel
theorem dX8_mixedWithObject_14 : decode cX8_mixedWithObject 14 = .ok (.if_icmp .gt 27, 3) := by decide +kernel
theorem dX8_mixedWithObject_17 : decode cX8_mixedWithObject 17 = .ok (.lload 4, 2) := by decide +kernel
theorem dX8_mixedWithObject_19 : decode cX8_mixedWithObject 19 = .ok (.aload_n 0, 1) := by decide +kernel
theorem dX8_mixedWithObject_20 : decode cX8_mixedWithObject 20 = .ok (.getfield 10, 3) := by decide +kernel
theorem dX8_mixedWithObject_23 : decode cX8_mixedWithObject 23 = .ok (.iload_n 3, 1) := by decide +kernel
theorem dX8_mixedWithObject_24 : decode cX8_mixedWithObject 24 = .ok (.iload 6, 2) := by decide +kernel
theorem dX8_mixedWithObject_26 : decode cX8_mixedWithObject 26 = .ok (.invokevirtual 180, 3) := by decide +kernel
theorem dX8_mixedWithObject_29 : decode cX8_mixedWithObject 29 = .ok (.i2l, 1) := by decide +kernel
theorem dX8_mixedWithObject_30 : decode cX8_mixedWithObject 30 = .ok (.invokestatic 346, 3) := by decide +kernel
theorem dX8_mixedWithObject_33 : decode cX8_mixedWithObject 33 = .ok (.lstore 4, 2) := by decide +kernel
theorem dX8_mixedWithObject_35 : decode cX8_mixedWithObject 35 = .ok (.iinc 6 1, 3) := by decide +kernel
theorem dX8_mixedWithObject_38 : decode cX8_mixedWithObject 38 = .ok (.goto (-27), 3) := by decide +kernel
theorem dX8_mixedWithObject_41 : decode cX8_mixedWithObject 41 = .ok (.iconst 0, 1) := by decide +kernel
theorem dX8_mixedWithObject_42 : decode cX8_mixedWithObject 42 = .ok (.istore 6, 2) := by decide +kernel
theorem dX8_mixedWithObject_44 : decode cX8_mixedWithObject 44 = .ok (.iload 6, 2) := by decide +kernel
theorem dX8_mixedWithObject_46 : decode cX8_mixedWithObject 46 = .ok (.aload_n 0, 1) := by decide +kernel
theorem dX8_mixedWithObject_47 : decode cX8_mixedWithObject 47 = .ok (.getfield 10, 3) := by decide +kernel
theorem dX8_mixedWithObject_50 : decode cX8_mixedWithObject 50 = .ok (.getfield 354, 3) := by decide +kernel
theorem dX8_mixedWithObject_53 : decode cX8_mixedWithObject 53 = .ok (.iload_n 3, 1) := by decide +kernel
theorem dX8_mixedWithObject_54 : decode cX8_mixedWithObject 54 = .ok (.iaload, 1) := by decide +kernel
theorem dX8_mixedWithObject_55 : decode cX8_mixedWithObject 55 = .ok (.if_icmp .ge 27, 3) := by decide +kernel
theorem dX8_mixedWithObject_58 : decode cX8_mixedWithObject 58 = .ok (.lload 4, 2) := by decide +kernel
theorem dX8_mixedWithObject_60 : decode cX8_mixedWithObject 60 = .ok (.aload_n 0, 1) := by decide +kernel
theorem dX8_mixedWithObject_61 : decode cX8_mixedWithObject 61 = .ok (.getfield 10, 3) := by decide +kernel
theorem dX8_mixedWithObject_64 : decode cX8_mixedWithObject 64 = .ok (.iload_n 3, 1) := by decide +kernel
theorem dX8_mixedWithObject_65 : decode cX8_mixedWithObject 65 = .ok (.iload 6, 2) := by decide +kernel
theorem dX8_mixedWithObject_67 : decode cX8_mixedWithObject 67 = .ok (.invokevirtual 137, 3) := by decide +kernel
theorem dX8_mixedWithObject_70 : decode cX8_mixedWithObject 70 = .ok (.i2l, 1) := by decide +kernel
theorem dX8_mixedWithObject_71 : decode cX8_mixedWithObject 71 = .ok (.invokestatic 346, 3) := by decide +kernel
theorem dX8_mixedWithObject_74 : decode cX8_mixedWithObject 74 = .ok (.lstore 4, 2) := by decide +kernel
theorem dX8_mixedWithObject_76 : decode cX8_mixedWithObject 76 = .ok (.iinc 6 1, 3) := by decide +kernel
theorem dX8_mixedWithObject_79 : decode cX8_mixedWithObject 79 = .ok (.goto (-35), 3) := by decide +kernel
theorem dX8_mixedWithObject_82 : decode cX8_mixedWithObject 82 = .ok (.lload 4, 2) := by decide +kernel
theorem dX8_mixedWithObject_84 : decode cX8_mixedWithObject 84 = .ok (.aload_n 0, 1) := by decide +kernel
theorem dX8_mixedWithObject_85 : decode cX8_mixedWithObject 85 = .ok (.getfield 21, 3) := by decide +kernel
theorem dX8_mixedWithObject_88 : decode cX8_mixedWithObject 88 = .ok (.getfield 189, 3) := by decide +kernel
theorem dX8_mixedWithObject_91 : decode cX8_mixedWithObject 91 = .ok (.getfield 193, 3) := by decide +kernel
theorem dX8_mixedWithObject_94 : decode cX8_mixedWithObject 94 = .ok (.iload_n 3, 1) := by decide +kernel
theorem dX8_mixedWithObject_95 : decode cX8_mixedWithObject 95 = .ok (.iaload, 1) := by decide +kernel
theorem dX8_mixedWithObject_96 : decode cX8_mixedWithObject 96 = .ok (.i2l, 1) := by decide +kernel
theorem dX8_mixedWithObject_97 : decode cX8_mixedWithObject 97 = .ok (.invokestatic 346, 3) := by decide +kernel
theorem dX8_mixedWithObject_100 : decode cX8_mixedWithObject 100 = .ok (.lstore 4, 2) := by decide +kernel
theorem dX8_mixedWithObject_102 : decode cX8_mixedWithObject 102 = .ok (.lload 4, 2) := by decide +kernel
theorem dX8_mixedWithObject_104 : decode cX8_mixedWithObject 104 = .ok (.aload_n 0, 1) := by decide +kernel
theorem dX8_mixedWithObject_105 : decode cX8_mixedWithObject 105 = .ok (.getfield 21, 3) := by decide +kernel
theorem dX8_mixedWithObject_108 : decode cX8_mixedWithObject 108 = .ok (.getfield 209, 3) := by decide +kernel
theorem dX8_mixedWithObject_111 : decode cX8_mixedWithObject 111 = .ok (.iload_n 3, 1) := by decide +kernel
theorem dX8_mixedWithObject_112 : decode cX8_mixedWithObject 112 = .ok (.iaload, 1) := by decide +kernel
theorem dX8_mixedWithObject_113 : decode cX8_mixedWithObject 113 = .ok (.i2l, 1) := by decide +kernel
theorem dX8_mixedWithObject_114 : decode cX8_mixedWithObject 114 = .ok (.invokestatic 346, 3) := by decide +kernel
theorem dX8_mixedWithObject_117 : decode cX8_mixedWithObject 117 = .ok (.lstore 4, 2) := by decide +kernel
theorem dX8_mixedWithObject_119 : decode cX8_mixedWithObject 119 = .ok (.lload 4, 2) := by decide +kernel
theorem dX8_mixedWithObject_121 : decode cX8_mixedWithObject 121 = .ok (.aload_n 0, 1) := by decide +kernel
theorem dX8_mixedWithObject_122 : decode cX8_mixedWithObject 122 = .ok (.getfield 21, 3) := by decide +kernel
theorem dX8_mixedWithObject_125 : decode cX8_mixedWithObject 125 = .ok (.getfield 226, 3) := by decide +kernel
theorem dX8_mixedWithObject_128 : decode cX8_mixedWithObject 128 = .ok (.iload_n 3, 1) := by decide +kernel
theorem dX8_mixedWithObject_129 : decode cX8_mixedWithObject 129 = .ok (.iaload, 1) := by decide +kernel
theorem dX8_mixedWithObject_130 : decode cX8_mixedWithObject 130 = .ok (.i2l, 1) := by decide +kernel
theorem dX8_mixedWithObject_131 : decode cX8_mixedWithObject 131 = .ok (.invokestatic 346, 3) := by decide +kernel
theorem dX8_mixedWithObject_134 : decode cX8_mixedWithObject 134 = .ok (.lstore 4, 2) := by decide +kernel
theorem dX8_mixedWithObject_136 : decode cX8_mixedWithObject 136 = .ok (.lload 4, 2) := by decide +kernel
theorem dX8_mixedWithObject_138 : decode cX8_mixedWithObject 138 = .ok (.aload_n 0, 1) := by decide +kernel
theorem dX8_mixedWithObject_139 : decode cX8_mixedWithObject 139 = .ok (.getfield 21, 3) := by decide +kernel
theorem dX8_mixedWithObject_142 : decode cX8_mixedWithObject 142 = .ok (.getfield 232, 3) := by decide +kernel
theorem dX8_mixedWithObject_145 : decode cX8_mixedWithObject 145 = .ok (.iload_n 3, 1) := by decide +kernel
theorem dX8_mixedWithObject_146 : decode cX8_mixedWithObject 146 = .ok (.iaload, 1) := by decide +kernel
theorem dX8_mixedWithObject_147 : decode cX8_mixedWithObject 147 = .ok (.i2l, 1) := by decide +kernel
theorem dX8_mixedWithObject_148 : decode cX8_mixedWithObject 148 = .ok (.invokestatic 346, 3) := by decide +kernel
theorem dX8_mixedWithObject_151 : decode cX8_mixedWithObject 151 = .ok (.lreturn, 1) := by decide +kernel
theorem dX8_digest_0 : decode cX8_digest 0 = .ok (.aload_n 0, 1) := by decide +kernel
theorem dX8_digest_1 : decode cX8_digest 1 = .ok (.getfield 21, 3) := by decide +kernel
theorem dX8_digest_4 : decode cX8_digest 4 = .ok (.invokevirtual 171, 3) := by decide +kernel
theorem dX8_digest_7 : decode cX8_digest 7 = .ok (.ldc2_w 344, 3) := by decide +kernel
theorem dX8_digest_10 : decode cX8_digest 10 = .ok (.aload_n 0, 1) := by decide +kernel
theorem dX8_digest_11 : decode cX8_digest 11 = .ok (.getfield 10, 3) := by decide +kernel
theorem dX8_digest_14 : decode cX8_digest 14 = .ok (.getfield 84, 3) := by decide +kernel
theorem dX8_digest_17 : decode cX8_digest 17 = .ok (.i2l, 1) := by decide +kernel
theorem dX8_digest_18 : decode cX8_digest 18 = .ok (.invokestatic 346, 3) := by decide +kernel
theorem dX8_digest_21 : decode cX8_digest 21 = .ok (.lstore_n 1, 1) := by decide +kernel
theorem dX8_digest_22 : decode cX8_digest 22 = .ok (.iconst 0, 1) := by decide +kernel
theorem dX8_digest_23 : decode cX8_digest 23 = .ok (.istore_n 3, 1) := by decide +kernel
theorem dX8_digest_24 : decode cX8_digest 24 = .ok (.iload_n 3, 1) := by decide +kernel
theorem dX8_digest_25 : decode cX8_digest 25 = .ok (.aload_n 0, 1) := by decide +kernel
theorem dX8_digest_26 : decode cX8_digest 26 = .ok (.getfield 10, 3) := by decide +kernel
theorem dX8_digest_29 : decode cX8_digest 29 = .ok (.getfield 84, 3) := by decide +kernel
theorem dX8_digest_32 : decode cX8_digest 32 = .ok (.if_icmp .ge 40, 3) := by decide +kernel
theorem dX8_digest_35 : decode cX8_digest 35 = .ok (.iconst 0, 1) := by decide +kernel
theorem dX8_digest_36 : decode cX8_digest 36 = .ok (.istore 4, 2) := by decide +kernel
theorem dX8_digest_38 : decode cX8_digest 38 = .ok (.iload 4, 2) := by decide +kernel
theorem dX8_digest_40 : decode cX8_digest 40 = .ok (.iconst 2, 1) := by decide +kernel
theorem dX8_digest_41 : decode cX8_digest 41 = .ok (.if_icmp .gt 25, 3) := by decide +kernel
theorem dX8_digest_44 : decode cX8_digest 44 = .ok (.lload_n 1, 1) := by decide +kernel
theorem dX8_digest_45 : decode cX8_digest 45 = .ok (.aload_n 0, 1) := by decide +kernel
theorem dX8_digest_46 : decode cX8_digest 46 = .ok (.getfield 10, 3) := by decide +kernel
theorem dX8_digest_49 : decode cX8_digest 49 = .ok (.iload_n 3, 1) := by decide +kernel
theorem dX8_digest_50 : decode cX8_digest 50 = .ok (.iload 4, 2) := by decide +kernel
theorem dX8_digest_52 : decode cX8_digest 52 = .ok (.invokevirtual 96, 3) := by decide +kernel
theorem dX8_digest_55 : decode cX8_digest 55 = .ok (.i2l, 1) := by decide +kernel
theorem dX8_digest_56 : decode cX8_digest 56 = .ok (.invokestatic 346, 3) := by decide +kernel
theorem dX8_digest_59 : decode cX8_digest 59 = .ok (.lstore_n 1, 1) := by decide +kernel
theorem dX8_digest_60 : decode cX8_digest 60 = .ok (.iinc 4 1, 3) := by decide +kernel
theorem dX8_digest_63 : decode cX8_digest 63 = .ok (.goto (-25), 3) := by decide +kernel
theorem dX8_digest_66 : decode cX8_digest 66 = .ok (.iinc 3 1, 3) := by decide +kernel
theorem dX8_digest_69 : decode cX8_digest 69 = .ok (.goto (-45), 3) := by decide +kernel
theorem dX8_digest_72 : decode cX8_digest 72 = .ok (.iconst 0, 1) := by decide +kernel
theorem dX8_digest_73 : decode cX8_digest 73 = .ok (.istore_n 3, 1) := by decide +kernel
theorem dX8_digest_74 : decode cX8_digest 74 = .ok (.iload_n 3, 1) := by decide +kernel
theorem dX8_digest_75 : decode cX8_digest 75 = .ok (.bipush 40, 2) := by decide +kernel
theorem dX8_digest_77 : decode cX8_digest 77 = .ok (.if_icmp .ge 27, 3) := by decide +kernel
theorem dX8_digest_80 : decode cX8_digest 80 = .ok (.aload_n 0, 1) := by decide +kernel
theorem dX8_digest_81 : decode cX8_digest 81 = .ok (.getfield 10, 3) := by decide +kernel
theorem dX8_digest_84 : decode cX8_digest 84 = .ok (.iload_n 3, 1) := by decide +kernel
theorem dX8_digest_85 : decode cX8_digest 85 = .ok (.invokevirtual 146, 3) := by decide +kernel
theorem dX8_digest_88 : decode cX8_digest 88 = .ok (.ifCond .eq 10, 3) := by decide +kernel
theorem dX8_digest_91 : decode cX8_digest 91 = .ok (.aload_n 0, 1) := by decide +kernel
theorem dX8_digest_92 : decode cX8_digest 92 = .ok (.lload_n 1, 1) := by decide +kernel
theorem dX8_digest_93 : decode cX8_digest 93 = .ok (.iload_n 3, 1) := by decide +kernel
theorem dX8_digest_94 : decode cX8_digest 94 = .ok (.invokevirtual 350, 3) := by decide +kernel
theorem dX8_digest_97 : decode cX8_digest 97 = .ok (.lstore_n 1, 1) := by decide +kernel
theorem dX8_digest_98 : decode cX8_digest 98 = .ok (.iinc 3 1, 3) := by decide +kernel
theorem dX8_digest_101 : decode cX8_digest 101 = .ok (.goto (-27), 3) := by decide +kernel
theorem dX8_digest_104 : decode cX8_digest 104 = .ok (.lload_n 1, 1) := by decide +kernel
theorem dX8_digest_105 : decode cX8_digest 105 = .ok (.aload_n 0, 1) := by decide +kernel
theorem dX8_digest_106 : decode cX8_digest 106 = .ok (.getfield 35, 3) := by decide +kernel
theorem dX8_digest_109 : decode cX8_digest 109 = .ok (.getfield 285, 3) := by decide +kernel
theorem dX8_digest_112 : decode cX8_digest 112 = .ok (.i2l, 1) := by decide +kernel
theorem dX8_digest_113 : decode cX8_digest 113 = .ok (.invokestatic 346, 3) := by decide +kernel
theorem dX8_digest_116 : decode cX8_digest 116 = .ok (.aload_n 0, 1) := by decide +kernel
theorem dX8_digest_117 : decode cX8_digest 117 = .ok (.getfield 28, 3) := by decide +kernel
theorem dX8_digest_120 : decode cX8_digest 120 = .ok (.getfield 337, 3) := by decide +kernel
theorem dX8_digest_123 : decode cX8_digest 123 = .ok (.i2l, 1) := by decide +kernel
theorem dX8_digest_124 : decode cX8_digest 124 = .ok (.invokestatic 346, 3) := by decide +kernel
theorem dX8_digest_127 : decode cX8_digest 127 = .ok (.lreturn, 1) := by decide +kernel
theorem wd_34 : (Jvm.Cond.methodLink "HeapBrowser" (1 : Nat) ({ cls := "java/lang/Object", name := "<init>", desc := "()V" } : Jvm.MethodName)) ∈ hb_wl := hb_w 34 (by decide +kernel) (by decide +kernel)
theorem wd_37 : (Jvm.Cond.classLink "HeapBrowser" (7 : Nat) "HeapBrowser$Heap") ∈ hb_wl := hb_w 37 (by decide +kernel) (by decide +kernel)
theorem lmX8_9 : Cond.methodLink RX8 9 yX4_init ∈ hb_wl := hb_w 39 (by decide +kernel) (by decide +kernel)
theorem lpX8_init_10 : hb_lkP yX8_init 10 8 0 := ⟨RX8, TX8, 9, rfl, by decide, rfl, Or.inr ⟨rfl, rfl, rfl, hb_w 283 (by decide +kernel) (by decide +kernel)⟩⟩
theorem wd_97 : (Jvm.Cond.classLink "HeapBrowser" (16 : Nat) "HeapBrowser$Analysis") ∈ hb_wl := hb_w 97 (by decide +kernel) (by decide +kernel)
theorem wd_98 : (Jvm.Cond.instantiable "HeapBrowser$Analysis" (13 : Nat)) ∈ hb_wl := hb_w 98 (by decide +kernel) (by decide +kernel)
theorem wd_4 : (Jvm.Cond.initialized "HeapBrowser$Analysis") ∈ hb_wl := hb_w 4 (by decide +kernel) (by decide +kernel)
theorem lkX8_10 : hb_lkF RX8 10 8 0 := ⟨RX8, TX8, 9, rfl, by decide, rfl, Or.inl (hb_w 283 (by decide +kernel) (by decide +kernel))⟩
theorem lmX8_18 : Cond.methodLink RX8 18 yX0_init ∈ hb_wl := hb_w 99 (by decide +kernel) (by decide +kernel)
theorem lpX8_init_21 : hb_lkP yX8_init 21 8 1 := ⟨RX8, TX8, 9, rfl, by decide, rfl, Or.inr ⟨rfl, rfl, rfl, hb_w 284 (by decide +kernel) (by decide +kernel)⟩⟩
theorem wd_184 : (Jvm.Cond.classLink "HeapBrowser" (25 : Nat) "HeapBrowser$History") ∈ hb_wl := hb_w 184 (by decide +kernel) (by decide +kernel)
theorem wd_185 : (Jvm.Cond.instantiable "HeapBrowser$History" (2 : Nat)) ∈ hb_wl := hb_w 185 (by decide +kernel) (by decide +kernel)
theorem wd_6 : (Jvm.Cond.initialized "HeapBrowser$History") ∈ hb_wl := hb_w 6 (by decide +kernel) (by decide +kernel)
theorem lmX8_27 : Cond.methodLink RX8 27 yX5_init ∈ hb_wl := hb_w 186 (by decide +kernel) (by decide +kernel)
theorem lpX8_init_28 : hb_lkP yX8_init 28 8 2 := ⟨RX8, TX8, 9, rfl, by decide, rfl, Or.inr ⟨rfl, rfl, rfl, hb_w 285 (by decide +kernel) (by decide +kernel)⟩⟩
theorem wd_201 : (Jvm.Cond.classLink "HeapBrowser" (32 : Nat) "HeapBrowser$Text") ∈ hb_wl := hb_w 201 (by decide +kernel) (by decide +kernel)
theorem wd_202 : (Jvm.Cond.instantiable "HeapBrowser$Text" (4 : Nat)) ∈ hb_wl := hb_w 202 (by decide +kernel) (by decide +kernel)
theorem wd_7 : (Jvm.Cond.initialized "HeapBrowser$Text") ∈ hb_wl := hb_w 7 (by decide +kernel) (by decide +kernel)
theorem lnX8_34 : Cond.methodLinkNest RX8 34 yX7_init "HeapBrowser" ∈ hb_nw := List.mem_of_getElem? (i := 36) (by decide +kernel)
theorem lpX8_init_35 : hb_lkP yX8_init 35 8 3 := ⟨RX8, TX8, 9, rfl, by decide, rfl, Or.inr ⟨rfl, rfl, rfl, hb_w 286 (by decide +kernel) (by decide +kernel)⟩⟩
theorem wd_225 : (Jvm.Cond.classLink "HeapBrowser" (39 : Nat) "HeapBrowser$Filter") ∈ hb_wl := hb_w 225 (by decide +kernel) (by decide +kernel)
theorem wd_226 : (Jvm.Cond.instantiable "HeapBrowser$Filter" (3 : Nat)) ∈ hb_wl := hb_w 226 (by decide +kernel) (by decide +kernel)
theorem wd_8 : (Jvm.Cond.initialized "HeapBrowser$Filter") ∈ hb_wl := hb_w 8 (by decide +kernel) (by decide +kernel)
theorem lkX8_21 : hb_lkF RX8 21 8 1 := ⟨RX8, TX8, 9, rfl, by decide, rfl, Or.inl (hb_w 284 (by decide +kernel) (by decide +kernel))⟩
theorem lkX8_35 : hb_lkF RX8 35 8 3 := ⟨RX8, TX8, 9, rfl, by decide, rfl, Or.inl (hb_w 286 (by decide +kernel) (by decide +kernel))⟩
theorem lmX8_41 : Cond.methodLink RX8 41 yX3_init ∈ hb_wl := hb_w 227 (by decide +kernel) (by decide +kernel)
theorem lpX8_init_44 : hb_lkP yX8_init 44 8 4 := ⟨RX8, TX8, 9, rfl, by decide, rfl, Or.inr ⟨rfl, rfl, rfl, hb_w 287 (by decide +kernel) (by decide +kernel)⟩⟩
theorem wd_241 : (Jvm.Cond.classLink "HeapBrowser" (48 : Nat) "HeapBrowser$Commands") ∈ hb_wl := hb_w 241 (by decide +kernel) (by decide +kernel)
theorem wd_242 : (Jvm.Cond.instantiable "HeapBrowser$Commands" (8 : Nat)) ∈ hb_wl := hb_w 242 (by decide +kernel) (by decide +kernel)
theorem wd_9 : (Jvm.Cond.initialized "HeapBrowser$Commands") ∈ hb_wl := hb_w 9 (by decide +kernel) (by decide +kernel)
theorem lmX8_50 : Cond.methodLink RX8 50 yX1_init ∈ hb_wl := hb_w 243 (by decide +kernel) (by decide +kernel)
theorem lpX8_init_51 : hb_lkP yX8_init 51 8 5 := ⟨RX8, TX8, 9, rfl, by decide, rfl, Or.inr ⟨rfl, rfl, rfl, hb_w 288 (by decide +kernel) (by decide +kernel)⟩⟩
theorem wd_273 : (Jvm.Cond.classLink "HeapBrowser" (55 : Nat) "HeapBrowser$Draw") ∈ hb_wl := hb_w 273 (by decide +kernel) (by decide +kernel)
theorem wd_274 : (Jvm.Cond.instantiable "HeapBrowser$Draw" (1 : Nat)) ∈ hb_wl := hb_w 274 (by decide +kernel) (by decide +kernel)
theorem wd_10 : (Jvm.Cond.initialized "HeapBrowser$Draw") ∈ hb_wl := hb_w 10 (by decide +kernel) (by decide +kernel)
theorem lnX8_57 : Cond.methodLinkNest RX8 57 yX2_init "HeapBrowser" ∈ hb_nw := List.mem_of_getElem? (i := 37) (by decide +kernel)
theorem lpX8_init_58 : hb_lkP yX8_init 58 8 6 := ⟨RX8, TX8, 9, rfl, by decide, rfl, Or.inr ⟨rfl, rfl, rfl, hb_w 289 (by decide +kernel) (by decide +kernel)⟩⟩
theorem lpX8_init_62 : hb_lkP yX8_init 62 8 7 := ⟨RX8, TX8, 9, rfl, by decide, rfl, Or.inr ⟨rfl, rfl, rfl, hb_w 290 (by decide +kernel) (by decide +kernel)⟩⟩
theorem lkX8_62 : hb_lkF RX8 62 8 7 := ⟨RX8, TX8, 9, rfl, by decide, rfl, Or.inl (hb_w 290 (by decide +kernel) (by decide +kernel))⟩
theorem lpX8_init_66 : hb_lkP yX8_init 66 8 8 := ⟨RX8, TX8, 9, rfl, by decide, rfl, Or.inr ⟨rfl, rfl, rfl, hb_w 291 (by decide +kernel) (by decide +kernel)⟩⟩
theorem lmX8_70 : Cond.methodLink RX8 70 yX4_problemOfClass ∈ hb_wl := hb_w 822 (by decide +kernel) (by decide +kernel)
theorem lmX8_74 : Cond.methodLink RX8 74 yX8_refuse ∈ hb_wl := hb_w 826 (by decide +kernel) (by decide +kernel)
theorem lkX8_28 : hb_lkF RX8 28 8 2 := ⟨RX8, TX8, 9, rfl, by decide, rfl, Or.inl (hb_w 285 (by decide +kernel) (by decide +kernel))⟩
theorem lmX8_78 : Cond.methodLink RX8 78 yX5_save ∈ hb_wl := hb_w 320 (by decide +kernel) (by decide +kernel)
theorem lmX8_81 : Cond.methodLink RX8 81 yX4_addClass ∈ hb_wl := hb_w 922 (by decide +kernel) (by decide +kernel)
theorem lkX8_84 : hb_lkF RX8 84 4 0 := ⟨RX4, TX4, 13, rfl, by decide, rfl, Or.inr (List.mem_of_getElem? (i := 0) (by decide +kernel))⟩
theorem lmX8_88 : Cond.methodLink RX8 88 yX4_hasClass ∈ hb_wl := hb_w 933 (by decide +kernel) (by decide +kernel)
theorem lmX8_92 : Cond.methodLink RX8 92 yX8_problemOf ∈ hb_wl := hb_w 934 (by decide +kernel) (by decide +kernel)
theorem lmX8_96 : Cond.methodLink RX8 96 yX4_classFact ∈ hb_wl := hb_w 792 (by decide +kernel) (by decide +kernel)
theorem lmX8_100 : Cond.methodLink RX8 100 yX8_refuseUnless ∈ hb_wl := hb_w 942 (by decide +kernel) (by decide +kernel)
theorem lmX8_104 : Cond.methodLink RX8 104 yX4_isBelow ∈ hb_wl := hb_w 945 (by decide +kernel) (by decide +kernel)
theorem lmX8_108 : Cond.methodLink RX8 108 yX4_problemOfInstance ∈ hb_wl := hb_w 953 (by decide +kernel) (by decide +kernel)
theorem lmX8_112 : Cond.methodLink RX8 112 yX4_addInstance ∈ hb_wl := hb_w 954 (by decide +kernel) (by decide +kernel)
theorem lmX8_115 : Cond.methodLink RX8 115 yX4_problemOfArray ∈ hb_wl := hb_w 962 (by decide +kernel) (by decide +kernel)
theorem lmX8_118 : Cond.methodLink RX8 118 yX4_addArray ∈ hb_wl := hb_w 963 (by decide +kernel) (by decide +kernel)
theorem lmX8_121 : Cond.methodLink RX8 121 yX4_problemOfHolder ∈ hb_wl := hb_w 971 (by decide +kernel) (by decide +kernel)
theorem lmX8_125 : Cond.methodLink RX8 125 yX4_addHolder ∈ hb_wl := hb_w 972 (by decide +kernel) (by decide +kernel)
theorem lmX8_128 : Cond.methodLink RX8 128 yX4_problemOfTarget ∈ hb_wl := hb_w 980 (by decide +kernel) (by decide +kernel)
theorem lmX8_131 : Cond.methodLink RX8 131 yX4_putTarget ∈ hb_wl := hb_w 981 (by decide +kernel) (by decide +kernel)
theorem lmX8_134 : Cond.methodLink RX8 134 yX4_hasSlot ∈ hb_wl := hb_w 989 (by decide +kernel) (by decide +kernel)
theorem lmX8_137 : Cond.methodLink RX8 137 yX4_targetOf ∈ hb_wl := hb_w 808 (by decide +kernel) (by decide +kernel)
theorem lmX8_140 : Cond.methodLink RX8 140 yX4_problemOfLength ∈ hb_wl := hb_w 997 (by decide +kernel) (by decide +kernel)
theorem lmX8_143 : Cond.methodLink RX8 143 yX4_putLength ∈ hb_wl := hb_w 1001 (by decide +kernel) (by decide +kernel)
theorem lmX8_146 : Cond.methodLink RX8 146 yX4_hasObject ∈ hb_wl := hb_w 460 (by decide +kernel) (by decide +kernel)
theorem lkX8_149 : hb_lkF RX8 149 4 4 := ⟨RX4, TX4, 13, rfl, by decide, rfl, Or.inr (List.mem_of_getElem? (i := 3) (by decide +kernel))⟩
theorem lmX8_153 : Cond.methodLink RX8 153 yX4_problemOfRoot ∈ hb_wl := hb_w 1019 (by decide +kernel) (by decide +kernel)
theorem lkX8_156 : hb_lkF RX8 156 4 9 := ⟨RX4, TX4, 13, rfl, by decide, rfl, Or.inr (List.mem_of_getElem? (i := 8) (by decide +kernel))⟩
theorem lmX8_159 : Cond.methodLink RX8 159 yX4_putRoots ∈ hb_wl := hb_w 1020 (by decide +kernel) (by decide +kernel)
theorem lmX8_162 : Cond.methodLink RX8 162 yX4_problemOfUnrooting ∈ hb_wl := hb_w 1028 (by decide +kernel) (by decide +kernel)
theorem lmX8_165 : Cond.methodLink RX8 165 yX0_removeGarbage ∈ hb_wl := hb_w 339 (by decide +kernel) (by decide +kernel)
theorem lmX8_168 : Cond.methodLink RX8 168 yX4_objectCount ∈ hb_wl := hb_w 451 (by decide +kernel) (by decide +kernel)
theorem lmX8_171 : Cond.methodLink RX8 171 yX0_refresh ∈ hb_wl := hb_w 786 (by decide +kernel) (by decide +kernel)
theorem lkX8_174 : hb_lkF RX8 174 0 8 := ⟨RX0, TX0, 13, rfl, by decide, rfl, Or.inr (List.mem_of_getElem? (i := 25) (by decide +kernel))⟩
theorem lkX8_177 : hb_lkF RX8 177 0 7 := ⟨RX0, TX0, 13, rfl, by decide, rfl, Or.inr (List.mem_of_getElem? (i := 23) (by decide +kernel))⟩
theorem lmX8_180 : Cond.methodLink RX8 180 yX4_objectFact ∈ hb_wl := hb_w 804 (by decide +kernel) (by decide +kernel)
theorem lkX8_58 : hb_lkF RX8 58 8 6 := ⟨RX8, TX8, 9, rfl, by decide, rfl, Or.inl (hb_w 289 (by decide +kernel) (by decide +kernel))⟩
theorem lmX8_186 : Cond.methodLink RX8 186 yX2_addTo ∈ hb_wl := hb_w 1047 (by decide +kernel) (by decide +kernel)
theorem lmX8_183 : Cond.methodLink RX8 183 yX2_begin ∈ hb_wl := hb_w 1043 (by decide +kernel) (by decide +kernel)
theorem lkX8_189 : hb_lkF RX8 189 0 1 := ⟨RX0, TX0, 13, rfl, by decide, rfl, Or.inr (List.mem_of_getElem? (i := 17) (by decide +kernel))⟩
theorem lkX8_193 : hb_lkF RX8 193 6 1 := ⟨RX6, TX6, 5, rfl, by decide, rfl, Or.inr (List.mem_of_getElem? (i := 12) (by decide +kernel))⟩
theorem lmX8_198 : Cond.methodLink RX8 198 yX6_pathObject ∈ hb_wl := hb_w 1087 (by decide +kernel) (by decide +kernel)
theorem lkX8_201 : hb_lkF RX8 201 0 4 := ⟨RX0, TX0, 13, rfl, by decide, rfl, Or.inr (List.mem_of_getElem? (i := 18) (by decide +kernel))⟩
theorem lkX8_209 : hb_lkF RX8 209 0 5 := ⟨RX0, TX0, 13, rfl, by decide, rfl, Or.inr (List.mem_of_getElem? (i := 19) (by decide +kernel))⟩
theorem lmX8_212 : Cond.methodLink RX8 212 yJ13_bitCount_95d88 ∈ hb_wl := hb_w 642 (by decide +kernel) (by decide +kernel)
theorem lmX8_218 : Cond.methodLink RX8 218 yX0_children ∈ hb_wl := hb_w 1119 (by decide +kernel) (by decide +kernel)
theorem lmX8_222 : Cond.methodLink RX8 222 yX8_memberAt ∈ hb_wl := hb_w 648 (by decide +kernel) (by decide +kernel)
theorem lkX8_226 : hb_lkF RX8 226 0 6 := ⟨RX0, TX0, 13, rfl, by decide, rfl, Or.inr (List.mem_of_getElem? (i := 21) (by decide +kernel))⟩
theorem lmX8_229 : Cond.methodLink RX8 229 yX0_dominatedBy ∈ hb_wl := hb_w 1137 (by decide +kernel) (by decide +kernel)
theorem lkX8_232 : hb_lkF RX8 232 0 10 := ⟨RX0, TX0, 13, rfl, by decide, rfl, Or.inr (List.mem_of_getElem? (i := 26) (by decide +kernel))⟩
theorem lmX8_235 : Cond.methodLink RX8 235 yX0_sizeOfComponent ∈ hb_wl := hb_w 1152 (by decide +kernel) (by decide +kernel)
theorem lmX8_238 : Cond.methodLink RX8 238 yX0_lostWithoutSlot ∈ hb_wl := hb_w 1163 (by decide +kernel) (by decide +kernel)
theorem lmX8_241 : Cond.methodLink RX8 241 yX0_lostWithoutRoot ∈ hb_wl := hb_w 1174 (by decide +kernel) (by decide +kernel)
theorem lmX8_244 : Cond.methodLink RX8 244 yX4_hasGroup ∈ hb_wl := hb_w 1185 (by decide +kernel) (by decide +kernel)
theorem lmX8_247 : Cond.methodLink RX8 247 yX4_membersOf ∈ hb_wl := hb_w 1189 (by decide +kernel) (by decide +kernel)
theorem lkX8_251 : hb_lkF RX8 251 6 4 := ⟨RX6, TX6, 5, rfl, by decide, rfl, Or.inr (List.mem_of_getElem? (i := 15) (by decide +kernel))⟩
theorem lmX8_255 : Cond.methodLink RX8 255 yX4_sizeOfAll ∈ hb_wl := hb_w 665 (by decide +kernel) (by decide +kernel)
theorem lmX8_258 : Cond.methodLink RX8 258 yX0_lostWithout ∈ hb_wl := hb_w 656 (by decide +kernel) (by decide +kernel)
theorem wd_1200 : (Jvm.Cond.constantLong "HeapBrowser" (368 : Nat) (2 : Int64)) ∈ hb_wl := hb_w 1200 (by decide +kernel) (by decide +kernel)
theorem lmX8_261 : Cond.methodLink RX8 261 yX8_quotientBits ∈ hb_wl := hb_w 1197 (by decide +kernel) (by decide +kernel)
theorem lkX8_265 : hb_lkF RX8 265 0 11 := ⟨RX0, TX0, 13, rfl, by decide, rfl, Or.inr (List.mem_of_getElem? (i := 27) (by decide +kernel))⟩
theorem lmX8_274 : Cond.methodLink RX8 274 yX0_greatest ∈ hb_wl := hb_w 1226 (by decide +kernel) (by decide +kernel)
theorem lmX8_277 : Cond.methodLink RX8 277 yX8_member ∈ hb_wl := hb_w 1230 (by decide +kernel) (by decide +kernel)
theorem wd_1231 : (Jvm.Cond.constantLong "HeapBrowser" (280 : Nat) (-1 : Int64)) ∈ hb_wl := hb_w 1231 (by decide +kernel) (by decide +kernel)
theorem lmX8_271 : Cond.methodLink RX8 271 yX0_suspects ∈ hb_wl := hb_w 1218 (by decide +kernel) (by decide +kernel)
theorem lmX8_268 : Cond.methodLink RX8 268 yX8_isPercent ∈ hb_wl := hb_w 1215 (by decide +kernel) (by decide +kernel)
theorem lmX8_282 : Cond.methodLink RX8 282 yX0_accumulationFrom ∈ hb_wl := hb_w 1239 (by decide +kernel) (by decide +kernel)
theorem lmX8_288 : Cond.methodLink RX8 288 yX7_add ∈ hb_wl := hb_w 1252 (by decide +kernel) (by decide +kernel)
theorem lkX8_285 : hb_lkF RX8 285 7 1 := ⟨RX7, TX7, 4, rfl, by decide, rfl, Or.inr (List.mem_of_getElem? (i := 29) (by decide +kernel))⟩
theorem lpX8_clearText_285 : hb_lkP yX8_clearText 285 7 1 := ⟨RX7, TX7, 4, rfl, by decide, rfl, Or.inl ⟨rfl, Or.inr (List.mem_of_getElem? (i := 29) (by decide +kernel))⟩⟩
theorem lkX8_44 : hb_lkF RX8 44 8 4 := ⟨RX8, TX8, 9, rfl, by decide, rfl, Or.inl (hb_w 287 (by decide +kernel) (by decide +kernel))⟩
theorem lmX8_291 : Cond.methodLink RX8 291 yX3_apply ∈ hb_wl := hb_w 469 (by decide +kernel) (by decide +kernel)
theorem lkX8_295 : hb_lkF RX8 295 7 3 := ⟨RX7, TX7, 4, rfl, by decide, rfl, Or.inr (List.mem_of_getElem? (i := 33) (by decide +kernel))⟩
theorem lkX8_299 : hb_lkF RX8 299 7 2 := ⟨RX7, TX7, 4, rfl, by decide, rfl, Or.inr (List.mem_of_getElem? (i := 30) (by decide +kernel))⟩
theorem lkX8_51 : hb_lkF RX8 51 8 5 := ⟨RX8, TX8, 9, rfl, by decide, rfl, Or.inl (hb_w 288 (by decide +kernel) (by decide +kernel))⟩
theorem lmX8_302 : Cond.methodLink RX8 302 yX1_read ∈ hb_wl := hb_w 670 (by decide +kernel) (by decide +kernel)
theorem lmX8_305 : Cond.methodLink RX8 305 yX5_note ∈ hb_wl := hb_w 689 (by decide +kernel) (by decide +kernel)
theorem lmX8_308 : Cond.methodLink RX8 308 yX1_run ∈ hb_wl := hb_w 690 (by decide +kernel) (by decide +kernel)
theorem lmX8_318 : Cond.methodLink RX8 318 yX5_keepNoted ∈ hb_wl := hb_w 781 (by decide +kernel) (by decide +kernel)
theorem lkX8_321 : hb_lkF RX8 321 1 7 := ⟨RX1, TX1, 8, rfl, by decide, rfl, Or.inr (List.mem_of_getElem? (i := 34) (by decide +kernel))⟩
theorem lmX8_311 : Cond.methodLink RX8 311 yX5_noted ∈ hb_wl := hb_w 776 (by decide +kernel) (by decide +kernel)
theorem lmX8_315 : Cond.methodLink RX8 315 yX4_copyFrom ∈ hb_wl := hb_w 780 (by decide +kernel) (by decide +kernel)
theorem lmX8_324 : Cond.methodLink RX8 324 yX8_isPicture ∈ hb_wl := hb_w 1263 (by decide +kernel) (by decide +kernel)
theorem lkX8_66 : hb_lkF RX8 66 8 8 := ⟨RX8, TX8, 9, rfl, by decide, rfl, Or.inl (hb_w 291 (by decide +kernel) (by decide +kernel))⟩
theorem lmX8_327 : Cond.methodLink RX8 327 yX4_countNotIn ∈ hb_wl := hb_w 1273 (by decide +kernel) (by decide +kernel)
theorem lmX8_331 : Cond.methodLink RX8 331 yX4_countChangedSince ∈ hb_wl := hb_w 1281 (by decide +kernel) (by decide +kernel)
theorem lmX8_334 : Cond.methodLink RX8 334 yX4_allObjects ∈ hb_wl := hb_w 1294 (by decide +kernel) (by decide +kernel)
theorem lmX8_338 : Cond.methodLink RX8 338 yX5_latest ∈ hb_wl := hb_w 1309 (by decide +kernel) (by decide +kernel)
theorem lmX8_341 : Cond.methodLink RX8 341 yX5_dropLatest ∈ hb_wl := hb_w 1314 (by decide +kernel) (by decide +kernel)
theorem lkX8_337 : hb_lkF RX8 337 5 1 := ⟨RX5, TX5, 2, rfl, by decide, rfl, Or.inr (List.mem_of_getElem? (i := 28) (by decide +kernel))⟩
theorem wd_791 : (Jvm.Cond.constantLong "HeapBrowser" (357 : Nat) (31 : Int64)) ∈ hb_wl := hb_w 791 (by decide +kernel) (by decide +kernel)
theorem lkX8_354 : hb_lkF RX8 354 4 7 := ⟨RX4, TX4, 13, rfl, by decide, rfl, Or.inr (List.mem_of_getElem? (i := 5) (by decide +kernel))⟩
theorem lmX8_346 : Cond.methodLink RX8 346 yX8_mixed ∈ hb_wl := hb_w 788 (by decide +kernel) (by decide +kernel)
theorem lmX8_350 : Cond.methodLink RX8 350 yX8_mixedWithObject ∈ hb_wl := hb_w 800 (by decide +kernel) (by decide +kernel)
theorem wd_787 : (Jvm.Cond.constantLong "HeapBrowser" (344 : Nat) (1759 : Int64)) ∈ hb_wl := hb_w 787 (by decide +kernel) (by decide +kernel)
