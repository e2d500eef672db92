theorem dL_defineClass_0 : decode cL_defineClass 0 = .ok (.aload 4, 2) := by decide +kernel
theorem dL_defineClass_2 : decode cL_defineClass 2 = .ok (.iconst 0, 1) := by decide +kernel
theorem dL_defineClass_3 : decode cL_defineClass 3 = .ok (.aload_n 0, 1) := by decide +kernel
theorem dL_defineClass_4 : decode cL_defineClass 4 = .ok (.iload_n 1, 1) := by decide +kernel
theorem dL_defineClass_5 : decode cL_defineClass 5 = .ok (.iload_n 2, 1) := by decide +kernel
theorem dL_defineClass_6 : decode cL_defineClass 6 = .ok (.iload_n 3, 1) := by decide +kernel
theorem dL_defineClass_7 : decode cL_defineClass 7 = .ok (.invokevirtual 7, 3) := by decide +kernel
theorem dL_defineClass_10 : decode cL_defineClass 10 = .ok (.i2l, 1) := by decide +kernel
theorem dL_defineClass_11 : decode cL_defineClass 11 = .ok (.lastore, 1) := by decide +kernel
theorem dL_defineClass_12 : decode cL_defineClass 12 = .ok (.goto 15, 3) := by decide +kernel
theorem dL_defineClass_15 : decode cL_defineClass 15 = .ok (.astore 5, 2) := by decide +kernel
theorem dL_defineClass_17 : decode cL_defineClass 17 = .ok (.iconst 1, 1) := by decide +kernel
theorem dL_defineClass_18 : decode cL_defineClass 18 = .ok (.ireturn, 1) := by decide +kernel
theorem dL_defineClass_19 : decode cL_defineClass 19 = .ok (.astore 5, 2) := by decide +kernel
theorem dL_defineClass_21 : decode cL_defineClass 21 = .ok (.iconst 2, 1) := by decide +kernel
theorem dL_defineClass_22 : decode cL_defineClass 22 = .ok (.ireturn, 1) := by decide +kernel
theorem dL_defineClass_23 : decode cL_defineClass 23 = .ok (.astore 5, 2) := by decide +kernel
theorem dL_defineClass_25 : decode cL_defineClass 25 = .ok (.iconst 3, 1) := by decide +kernel
theorem dL_defineClass_26 : decode cL_defineClass 26 = .ok (.ireturn, 1) := by decide +kernel
theorem dL_defineClass_27 : decode cL_defineClass 27 = .ok (.iconst 0, 1) := by decide +kernel
theorem dL_defineClass_28 : decode cL_defineClass 28 = .ok (.ireturn, 1) := by decide +kernel
theorem dL_classInfo_0 : decode cL_classInfo 0 = .ok (.aload_n 3, 1) := by decide +kernel
theorem dL_classInfo_1 : decode cL_classInfo 1 = .ok (.iconst 0, 1) := by decide +kernel
theorem dL_classInfo_2 : decode cL_classInfo 2 = .ok (.aload_n 0, 1) := by decide +kernel
theorem dL_classInfo_3 : decode cL_classInfo 3 = .ok (.iload_n 1, 1) := by decide +kernel
theorem dL_classInfo_4 : decode cL_classInfo 4 = .ok (.iload_n 2, 1) := by decide +kernel
theorem dL_classInfo_5 : decode cL_classInfo 5 = .ok (.invokevirtual 19, 3) := by decide +kernel
theorem dL_classInfo_8 : decode cL_classInfo 8 = .ok (.i2l, 1) := by decide +kernel
theorem dL_classInfo_9 : decode cL_classInfo 9 = .ok (.lastore, 1) := by decide +kernel
theorem dL_classInfo_10 : decode cL_classInfo 10 = .ok (.goto 11, 3) := by decide +kernel
theorem dL_classInfo_13 : decode cL_classInfo 13 = .ok (.astore 4, 2) := by decide +kernel
theorem dL_classInfo_15 : decode cL_classInfo 15 = .ok (.iconst 1, 1) := by decide +kernel
theorem dL_classInfo_16 : decode cL_classInfo 16 = .ok (.ireturn, 1) := by decide +kernel
theorem dL_classInfo_17 : decode cL_classInfo 17 = .ok (.astore 4, 2) := by decide +kernel
theorem dL_classInfo_19 : decode cL_classInfo 19 = .ok (.iconst 2, 1) := by decide +kernel
theorem dL_classInfo_20 : decode cL_classInfo 20 = .ok (.ireturn, 1) := by decide +kernel
theorem dL_classInfo_21 : decode cL_classInfo 21 = .ok (.iconst 0, 1) := by decide +kernel
theorem dL_classInfo_22 : decode cL_classInfo 22 = .ok (.ireturn, 1) := by decide +kernel
theorem dL_isSubclass_0 : decode cL_isSubclass 0 = .ok (.aload_n 3, 1) := by decide +kernel
theorem dL_isSubclass_1 : decode cL_isSubclass 1 = .ok (.iconst 0, 1) := by decide +kernel
theorem dL_isSubclass_2 : decode cL_isSubclass 2 = .ok (.aload_n 0, 1) := by decide +kernel
theorem dL_isSubclass_3 : decode cL_isSubclass 3 = .ok (.iload_n 1, 1) := by decide +kernel
theorem dL_isSubclass_4 : decode cL_isSubclass 4 = .ok (.iload_n 2, 1) := by decide +kernel
theorem dL_isSubclass_5 : decode cL_isSubclass 5 = .ok (.invokevirtual 23, 3) := by decide +kernel
theorem dL_isSubclass_8 : decode cL_isSubclass 8 = .ok (.ifCond .eq 7, 3) := by decide +kernel
theorem dL_isSubclass_11 : decode cL_isSubclass 11 = .ok (.lconst 1, 1) := by decide +kernel
theorem dL_isSubclass_12 : decode cL_isSubclass 12 = .ok (.goto 4, 3) := by decide +kernel
theorem dL_isSubclass_15 : decode cL_isSubclass 15 = .ok (.lconst 0, 1) := by decide +kernel
theorem dL_isSubclass_16 : decode cL_isSubclass 16 = .ok (.lastore, 1) := by decide +kernel
theorem dL_isSubclass_17 : decode cL_isSubclass 17 = .ok (.goto 7, 3) := by decide +kernel
theorem dL_isSubclass_20 : decode cL_isSubclass 20 = .ok (.astore 4, 2) := by decide +kernel
theorem dL_isSubclass_22 : decode cL_isSubclass 22 = .ok (.iconst 1, 1) := by decide +kernel
theorem dL_isSubclass_23 : decode cL_isSubclass 23 = .ok (.ireturn, 1) := by decide +kernel
theorem dL_isSubclass_24 : decode cL_isSubclass 24 = .ok (.iconst 0, 1) := by decide +kernel
theorem dL_isSubclass_25 : decode cL_isSubclass 25 = .ok (.ireturn, 1) := by decide +kernel
theorem dL_newInstance_0 : decode cL_newInstance 0 = .ok (.aload_n 2, 1) := by decide +kernel
theorem dL_newInstance_1 : decode cL_newInstance 1 = .ok (.iconst 0, 1) := by decide +kernel
theorem dL_newInstance_2 : decode cL_newInstance 2 = .ok (.aload_n 0, 1) := by decide +kernel
theorem dL_newInstance_3 : decode cL_newInstance 3 = .ok (.iload_n 1, 1) := by decide +kernel
theorem dL_newInstance_4 : decode cL_newInstance 4 = .ok (.invokevirtual 27, 3) := by decide +kernel
theorem dL_newInstance_7 : decode cL_newInstance 7 = .ok (.i2l, 1) := by decide +kernel
theorem dL_newInstance_8 : decode cL_newInstance 8 = .ok (.lastore, 1) := by decide +kernel
theorem dL_newInstance_9 : decode cL_newInstance 9 = .ok (.goto 9, 3) := by decide +kernel
theorem dL_newInstance_12 : decode cL_newInstance 12 = .ok (.astore_n 3, 1) := by decide +kernel
theorem dL_newInstance_13 : decode cL_newInstance 13 = .ok (.iconst 1, 1) := by decide +kernel
theorem dL_newInstance_14 : decode cL_newInstance 14 = .ok (.ireturn, 1) := by decide +kernel
theorem dL_newInstance_15 : decode cL_newInstance 15 = .ok (.astore_n 3, 1) := by decide +kernel
theorem dL_newInstance_16 : decode cL_newInstance 16 = .ok (.iconst 2, 1) := by decide +kernel
theorem dL_newInstance_17 : decode cL_newInstance 17 = .ok (.ireturn, 1) := by decide +kernel
theorem dL_newInstance_18 : decode cL_newInstance 18 = .ok (.iconst 0, 1) := by decide +kernel
theorem dL_newInstance_19 : decode cL_newInstance 19 = .ok (.ireturn, 1) := by decide +kernel
theorem dL_newArray_0 : decode cL_newArray 0 = .ok (.aload_n 2, 1) := by decide +kernel
theorem dL_newArray_1 : decode cL_newArray 1 = .ok (.iconst 0, 1) := by decide +kernel
theorem dL_newArray_2 : decode cL_newArray 2 = .ok (.aload_n 0, 1) := by decide +kernel
theorem dL_newArray_3 : decode cL_newArray 3 = .ok (.iload_n 1, 1) := by decide +kernel
theorem dL_newArray_4 : decode cL_newArray 4 = .ok (.invokevirtual 31, 3) := by decide +kernel
theorem dL_newArray_7 : decode cL_newArray 7 = .ok (.i2l, 1) := by decide +kernel
theorem dL_newArray_8 : decode cL_newArray 8 = .ok (.lastore, 1) := by decide +kernel
theorem dL_newArray_9 : decode cL_newArray 9 = .ok (.goto 9, 3) := by decide +kernel
theorem dL_newArray_12 : decode cL_newArray 12 = .ok (.astore_n 3, 1) := by decide +kernel
theorem dL_newArray_13 : decode cL_newArray 13 = .ok (.iconst 1, 1) := by decide +kernel
theorem dL_newArray_14 : decode cL_newArray 14 = .ok (.ireturn, 1) := by decide +kernel
theorem dL_newArray_15 : decode cL_newArray 15 = .ok (.astore_n 3, 1) := by decide +kernel
theorem dL_newArray_16 : decode cL_newArray 16 = .ok (.iconst 2, 1) := by decide +kernel
theorem dL_newArray_17 : decode cL_newArray 17 = .ok (.ireturn, 1) := by decide +kernel
theorem dL_newArray_18 : decode cL_newArray 18 = .ok (.iconst 0, 1) := by decide +kernel
theorem dL_newArray_19 : decode cL_newArray 19 = .ok (.ireturn, 1) := by decide +kernel
theorem dL_newHolder_0 : decode cL_newHolder 0 = .ok (.aload_n 1, 1) := by decide +kernel
theorem dL_newHolder_1 : decode cL_newHolder 1 = .ok (.iconst 0, 1) := by decide +kernel
theorem dL_newHolder_2 : decode cL_newHolder 2 = .ok (.aload_n 0, 1) := by decide +kernel
theorem dL_newHolder_3 : decode cL_newHolder 3 = .ok (.invokevirtual 34, 3) := by decide +kernel
theorem dL_newHolder_6 : decode cL_newHolder 6 = .ok (.i2l, 1) := by decide +kernel
theorem dL_newHolder_7 : decode cL_newHolder 7 = .ok (.lastore, 1) := by decide +kernel
theorem dL_newHolder_8 : decode cL_newHolder 8 = .ok (.goto 6, 3) := by decide +kernel
theorem dL_newHolder_11 : decode cL_newHolder 11 = .ok (.astore_n 2, 1) := by decide +kernel
theorem dL_newHolder_12 : decode cL_newHolder 12 = .ok (.iconst 1, 1) := by decide +kernel
theorem dL_newHolder_13 : decode cL_newHolder 13 = .ok (.ireturn, 1) := by decide +kernel
theorem dL_newHolder_14 : decode cL_newHolder 14 = .ok (.iconst 0, 1) := by decide +kernel
theorem dL_newHolder_15 : decode cL_newHolder 15 = .ok (.ireturn, 1) := by decide +kernel
theorem dL_set_0 : decode cL_set 0 = .ok (.aload 4, 2) := by decide +kernel
theorem dL_set_2 : decode cL_set 2 = .ok (.iconst 0, 1) := by decide +kernel
theorem dL_set_3 : decode cL_set 3 = .ok (.aload_n 0, 1) := by decide +kernel
theorem dL_set_4 : decode cL_set 4 = .ok (.iload_n 1, 1) := by decide +kernel
theorem dL_set_5 : decode cL_set 5 = .ok (.iload_n 2, 1) := by decide +kernel
theorem dL_set_6 : decode cL_set 6 = .ok (.iload_n 3, 1) := by decide +kernel
theorem dL_set_7 : decode cL_set 7 = .ok (.invokevirtual 38, 3) := by decide +kernel
theorem dL_set_10 : decode cL_set 10 = .ok (.i2l, 1) := by decide +kernel
theorem dL_set_11 : decode cL_set 11 = .ok (.lastore, 1) := by decide +kernel
theorem dL_set_12 : decode cL_set 12 = .ok (.goto 7, 3) := by decide +kernel
theorem dL_set_15 : decode cL_set 15 = .ok (.astore 5, 2) := by decide +kernel
theorem dL_set_17 : decode cL_set 17 = .ok (.iconst 1, 1) := by decide +kernel
theorem dL_set_18 : decode cL_set 18 = .ok (.ireturn, 1) := by decide +kernel
theorem dL_set_19 : decode cL_set 19 = .ok (.iconst 0, 1) := by decide +kernel
theorem dL_set_20 : decode cL_set 20 = .ok (.ireturn, 1) := by decide +kernel
theorem dL_get_0 : decode cL_get 0 = .ok (.aload_n 3, 1) := by decide +kernel
theorem dL_get_1 : decode cL_get 1 = .ok (.iconst 0, 1) := by decide +kernel
theorem dL_get_2 : decode cL_get 2 = .ok (.aload_n 0, 1) := by decide +kernel
theorem dL_get_3 : decode cL_get 3 = .ok (.iload_n 1, 1) := by decide +kernel
theorem dL_get_4 : decode cL_get 4 = .ok (.iload_n 2, 1) := by decide +kernel
theorem dL_get_5 : decode cL_get 5 = .ok (.invokevirtual 41, 3) := by decide +kernel
theorem dL_get_8 : decode cL_get 8 = .ok (.i2l, 1) := by decide +kernel
theorem dL_get_9 : decode cL_get 9 = .ok (.lastore, 1) := by decide +kernel
theorem dL_get_10 : decode cL_get 10 = .ok (.goto 7, 3) := by decide +kernel
theorem dL_get_13 : decode cL_get 13 = .ok (.astore 4, 2) := by decide +kernel
theorem dL_get_15 : decode cL_get 15 = .ok (.iconst 1, 1) := by decide +kernel
theorem dL_get_16 : decode cL_get 16 = .ok (.ireturn, 1) := by decide +kernel
theorem dL_get_17 : decode cL_get 17 = .ok (.iconst 0, 1) := by decide +kernel
theorem dL_get_18 : decode cL_get 18 = .ok (.ireturn, 1) := by decide +kernel
theorem dL_resizeArray_0 : decode cL_resizeArray 0 = .ok (.aload_n 3, 1) := by decide +kernel
theorem dL_resizeArray_1 : decode cL_resizeArray 1 = .ok (.iconst 0, 1) := by decide +kernel
theorem dL_resizeArray_2 : decode cL_resizeArray 2 = .ok (.aload_n 0, 1) := by decide +kernel
theorem dL_resizeArray_3 : decode cL_resizeArray 3 = .ok (.iload_n 1, 1) := by decide +kernel
theorem dL_resizeArray_4 : decode cL_resizeArray 4 = .ok (.iload_n 2, 1) := by decide +kernel
theorem dL_resizeArray_5 : decode cL_resizeArray 5 = .ok (.invokevirtual 44, 3) := by decide +kernel
theorem dL_resizeArray_8 : decode cL_resizeArray 8 = .ok (.i2l, 1) := by decide +kernel
theorem dL_resizeArray_9 : decode cL_resizeArray 9 = .ok (.lastore, 1) := by decide +kernel
theorem dL_resizeArray_10 : decode cL_resizeArray 10 = .ok (.goto 15, 3) := by decide +kernel
theorem dL_resizeArray_13 : decode cL_resizeArray 13 = .ok (.astore 4, 2) := by decide +kernel
theorem dL_resizeArray_15 : decode cL_resizeArray 15 = .ok (.iconst 1, 1) := by decide +kernel
theorem dL_resizeArray_16 : decode cL_resizeArray 16 = .ok (.ireturn, 1) := by decide +kernel
theorem dL_resizeArray_17 : decode cL_resizeArray 17 = .ok (.astore 4, 2) := by decide +kernel
theorem dL_resizeArray_19 : decode cL_resizeArray 19 = .ok (.iconst 2, 1) := by decide +kernel
theorem dL_resizeArray_20 : decode cL_resizeArray 20 = .ok (.ireturn, 1) := by decide +kernel
theorem dL_resizeArray_21 : decode cL_resizeArray 21 = .ok (.astore 4, 2) := by decide +kernel
theorem dL_resizeArray_23 : decode cL_resizeArray 23 = .ok (.iconst 3, 1) := by decide +kernel
theorem dL_resizeArray_24 : decode cL_resizeArray 24 = .ok (.ireturn, 1) := by decide +kernel
theorem dL_resizeArray_25 : decode cL_resizeArray 25 = .ok (.iconst 0, 1) := by decide +kernel
theorem dL_resizeArray_26 : decode cL_resizeArray 26 = .ok (.ireturn, 1) := by decide +kernel
theorem dL_referent_0 : decode cL_referent 0 = .ok (.aload_n 2, 1) := by decide +kernel
theorem dL_referent_1 : decode cL_referent 1 = .ok (.iconst 0, 1) := by decide +kernel
theorem dL_referent_2 : decode cL_referent 2 = .ok (.aload_n 0, 1) := by decide +kernel
theorem dL_referent_3 : decode cL_referent 3 = .ok (.iload_n 1, 1) := by decide +kernel
theorem dL_referent_4 : decode cL_referent 4 = .ok (.invokevirtual 47, 3) := by decide +kernel
theorem dL_referent_7 : decode cL_referent 7 = .ok (.i2l, 1) := by decide +kernel
theorem dL_referent_8 : decode cL_referent 8 = .ok (.lastore, 1) := by decide +kernel
theorem dL_referent_9 : decode cL_referent 9 = .ok (.goto 9, 3) := by decide +kernel
theorem dL_referent_12 : decode cL_referent 12 = .ok (.astore_n 3, 1) := by decide +kernel
theorem dL_referent_13 : decode cL_referent 13 = .ok (.iconst 1, 1) := by decide +kernel
theorem dL_referent_14 : decode cL_referent 14 = .ok (.ireturn, 1) := by decide +kernel
theorem dL_referent_15 : decode cL_referent 15 = .ok (.astore_n 3, 1) := by decide +kernel
theorem dL_referent_16 : decode cL_referent 16 = .ok (.iconst 2, 1) := by decide +kernel
theorem dL_referent_17 : decode cL_referent 17 = .ok (.ireturn, 1) := by decide +kernel
theorem dL_referent_18 : decode cL_referent 18 = .ok (.iconst 0, 1) := by decide +kernel
theorem dL_referent_19 : decode cL_referent 19 = .ok (.ireturn, 1) := by decide +kernel
theorem dL_addRoot_0 : decode cL_addRoot 0 = .ok (.aload_n 3, 1) := by decide +kernel
theorem dL_addRoot_1 : decode cL_addRoot 1 = .ok (.iconst 0, 1) := by decide +kernel
theorem dL_addRoot_2 : decode cL_addRoot 2 = .ok (.aload_n 0, 1) := by decide +kernel
theorem dL_addRoot_3 : decode cL_addRoot 3 = .ok (.iload_n 1, 1) := by decide +kernel
theorem dL_addRoot_4 : decode cL_addRoot 4 = .ok (.iload_n 2, 1) := by decide +kernel
theorem dL_addRoot_5 : decode cL_addRoot 5 = .ok (.invokevirtual 50, 3) := by decide +kernel
theorem dL_addRoot_8 : decode cL_addRoot 8 = .ok (.i2l, 1) := by decide +kernel
theorem dL_addRoot_9 : decode cL_addRoot 9 = .ok (.lastore, 1) := by decide +kernel
theorem dL_addRoot_10 : decode cL_addRoot 10 = .ok (.goto 11, 3) := by decide +kernel
theorem dL_addRoot_13 : decode cL_addRoot 13 = .ok (.astore 4, 2) := by decide +kernel
theorem dL_addRoot_15 : decode cL_addRoot 15 = .ok (.iconst 1, 1) := by decide +kernel
theorem dL_addRoot_16 : decode cL_addRoot 16 = .ok (.ireturn, 1) := by decide +kernel
theorem dL_addRoot_17 : decode cL_addRoot 17 = .ok (.astore 4, 2) := by decide +kernel
theorem dL_addRoot_19 : decode cL_addRoot 19 = .ok (.iconst 2, 1) := by decide +kernel
theorem dL_addRoot_20 : decode cL_addRoot 20 = .ok (.ireturn, 1) := by decide +kernel
theorem dL_addRoot_21 : decode cL_addRoot 21 = .ok (.iconst 0, 1) := by decide +kernel
theorem dL_addRoot_22 : decode cL_addRoot 22 = .ok (.ireturn, 1) := by decide +kernel
theorem dL_removeRoot_0 : decode cL_removeRoot 0 = .ok (.aload_n 3, 1) := by decide +kernel
theorem dL_removeRoot_1 : decode cL_removeRoot 1 = .ok (.iconst 0, 1) := by decide +kernel
theorem dL_removeRoot_2 : decode cL_removeRoot 2 = .ok (.aload_n 0, 1) := by decide +kernel
theorem dL_removeRoot_3 : decode cL_removeRoot 3 = .ok (.iload_n 1, 1) := by decide +kernel
theorem dL_removeRoot_4 : decode cL_removeRoot 4 = .ok (.iload_n 2, 1) := by decide +kernel
theorem dL_removeRoot_5 : decode cL_removeRoot 5 = .ok (.invokevirtual 53, 3) := by decide +kernel
theorem dL_removeRoot_8 : decode cL_removeRoot 8 = .ok (.i2l, 1) := by decide +kernel
theorem dL_removeRoot_9 : decode cL_removeRoot 9 = .ok (.lastore, 1) := by decide +kernel
theorem dL_removeRoot_10 : decode cL_removeRoot 10 = .ok (.goto 15, 3) := by decide +kernel
theorem dL_removeRoot_13 : decode cL_removeRoot 13 = .ok (.astore 4, 2) := by decide +kernel
theorem dL_removeRoot_15 : decode cL_removeRoot 15 = .ok (.iconst 1, 1) := by decide +kernel
theorem dL_removeRoot_16 : decode cL_removeRoot 16 = .ok (.ireturn, 1) := by decide +kernel
theorem dL_removeRoot_17 : decode cL_removeRoot 17 = .ok (.astore 4, 2) := by decide +kernel
theorem dL_removeRoot_19 : decode cL_removeRoot 19 = .ok (.iconst 2, 1) := by decide +kernel
theorem dL_removeRoot_20 : decode cL_removeRoot 20 = .ok (.ireturn, 1) := by decide +kernel
theorem dL_removeRoot_21 : decode cL_removeRoot 21 = .ok (.astore 4, 2) := by decide +kernel
theorem dL_removeRoot_23 : decode cL_removeRoot 23 = .ok (.iconst 3, 1) := by decide +kernel
theorem dL_removeRoot_24 : decode cL_removeRoot 24 = .ok (.ireturn, 1) := by decide +kernel
theorem dL_removeRoot_25 : decode cL_removeRoot 25 = .ok (.iconst 0, 1) := by decide +kernel
theorem dL_removeRoot_26 : decode cL_removeRoot 26 = .ok (.ireturn, 1) := by decide +kernel
theorem dL_objectInfo_0 : decode cL_objectInfo 0 = .ok (.aload_n 3, 1) := by decide +kernel
theorem dL_objectInfo_1 : decode cL_objectInfo 1 = .ok (.iconst 0, 1) := by decide +kernel
theorem dL_objectInfo_2 : decode cL_objectInfo 2 = .ok (.aload_n 0, 1) := by decide +kernel
theorem dL_objectInfo_3 : decode cL_objectInfo 3 = .ok (.iload_n 1, 1) := by decide +kernel
theorem dL_objectInfo_4 : decode cL_objectInfo 4 = .ok (.iload_n 2, 1) := by decide +kernel
theorem dL_objectInfo_5 : decode cL_objectInfo 5 = .ok (.invokevirtual 56, 3) := by decide +kernel
theorem dL_objectInfo_8 : decode cL_objectInfo 8 = .ok (.i2l, 1) := by decide +kernel
theorem dL_objectInfo_9 : decode cL_objectInfo 9 = .ok (.lastore, 1) := by decide +kernel
theorem dL_objectInfo_10 : decode cL_objectInfo 10 = .ok (.goto 11, 3) := by decide +kernel
theorem dL_objectInfo_13 : decode cL_objectInfo 13 = .ok (.astore 4, 2) := by decide +kernel
theorem dL_objectInfo_15 : decode cL_objectInfo 15 = .ok (.iconst 1, 1) := by decide +kernel
theorem dL_objectInfo_16 : decode cL_objectInfo 16 = .ok (.ireturn, 1) := by decide +kernel
theorem dL_objectInfo_17 : decode cL_objectInfo 17 = .ok (.astore 4, 2) := by decide +kernel
theorem dL_objectInfo_19 : decode cL_objectInfo 19 = .ok (.iconst 2, 1) := by decide +kernel
theorem dL_objectInfo_20 : decode cL_objectInfo 20 = .ok (.ireturn, 1) := by decide +kernel
theorem dL_objectInfo_21 : decode cL_objectInfo 21 = .ok (.iconst 0, 1) := by decide +kernel
theorem dL_objectInfo_22 : decode cL_objectInfo 22 = .ok (.ireturn, 1) := by decide +kernel
theorem dL_populate_0 : decode cL_populate 0 = .ok (.aload_n 3, 1) := by decide +kernel
theorem dL_populate_1 : decode cL_populate 1 = .ok (.iconst 0, 1) := by decide +kernel
theorem dL_populate_2 : decode cL_populate 2 = .ok (.aload_n 0, 1) := by decide +kernel
theorem dL_populate_3 : decode cL_populate 3 = .ok (.iload_n 1, 1) := by decide +kernel
theorem dL_populate_4 : decode cL_populate 4 = .ok (.iload_n 2, 1) := by decide +kernel
theorem dL_populate_5 : decode cL_populate 5 = .ok (.invokevirtual 59, 3) := by decide +kernel
theorem dL_populate_8 : decode cL_populate 8 = .ok (.i2l, 1) := by decide +kernel
theorem dL_populate_9 : decode cL_populate 9 = .ok (.lastore, 1) := by decide +kernel
theorem dL_populate_10 : decode cL_populate 10 = .ok (.goto 11, 3) := by decide +kernel
theorem dL_populate_13 : decode cL_populate 13 = .ok (.astore 4, 2) := by decide +kernel
theorem dL_populate_15 : decode cL_populate 15 = .ok (.iconst 1, 1) := by decide +kernel
theorem dL_populate_16 : decode cL_populate 16 = .ok (.ireturn, 1) := by decide +kernel
theorem dL_populate_17 : decode cL_populate 17 = .ok (.astore 4, 2) := by decide +kernel
theorem dL_populate_19 : decode cL_populate 19 = .ok (.iconst 2, 1) := by decide +kernel
theorem dL_populate_20 : decode cL_populate 20 = .ok (.ireturn, 1) := by decide +kernel
theorem dL_populate_21 : decode cL_populate 21 = .ok (.iconst 0, 1) := by decide +kernel
theorem dL_populate_22 : decode cL_populate 22 = .ok (.ireturn, 1) := by decide +kernel
theorem dL_distance_0 : decode cL_distance 0 = .ok (.aload_n 2, 1) := by decide +kernel
theorem dL_distance_1 : decode cL_distance 1 = .ok (.iconst 0, 1) := by decide +kernel
theorem dL_distance_2 : decode cL_distance 2 = .ok (.aload_n 0, 1) := by decide +kernel
theorem dL_distance_3 : decode cL_distance 3 = .ok (.iload_n 1, 1) := by decide +kernel
theorem dL_distance_4 : decode cL_distance 4 = .ok (.invokevirtual 62, 3) := by decide +kernel
theorem dL_distance_7 : decode cL_distance 7 = .ok (.i2l, 1) := by decide +kernel
theorem dL_distance_8 : decode cL_distance 8 = .ok (.lastore, 1) := by decide +kernel
theorem dL_distance_9 : decode cL_distance 9 = .ok (.goto 6, 3) := by decide +kernel
theorem dL_distance_12 : decode cL_distance 12 = .ok (.astore_n 3, 1) := by decide +kernel
theorem dL_distance_13 : decode cL_distance 13 = .ok (.iconst 1, 1) := by decide +kernel
theorem dL_distance_14 : decode cL_distance 14 = .ok (.ireturn, 1) := by decide +kernel
theorem dL_distance_15 : decode cL_distance 15 = .ok (.iconst 0, 1) := by decide +kernel
theorem dL_distance_16 : decode cL_distance 16 = .ok (.ireturn, 1) := by decide +kernel
theorem dL_pathAt_0 : decode cL_pathAt 0 = .ok (.aload_n 3, 1) := by decide +kernel
theorem dL_pathAt_1 : decode cL_pathAt 1 = .ok (.iconst 0, 1) := by decide +kernel
theorem dL_pathAt_2 : decode cL_pathAt 2 = .ok (.aload_n 0, 1) := by decide +kernel
theorem dL_pathAt_3 : decode cL_pathAt 3 = .ok (.iload_n 1, 1) := by decide +kernel
theorem dL_pathAt_4 : decode cL_pathAt 4 = .ok (.iload_n 2, 1) := by decide +kernel
theorem dL_pathAt_5 : decode cL_pathAt 5 = .ok (.invokevirtual 65, 3) := by decide +kernel
theorem dL_pathAt_8 : decode cL_pathAt 8 = .ok (.i2l, 1) := by decide +kernel
theorem dL_pathAt_9 : decode cL_pathAt 9 = .ok (.lastore, 1) := by decide +kernel
theorem dL_pathAt_10 : decode cL_pathAt 10 = .ok (.goto 7, 3) := by decide +kernel
theorem dL_pathAt_13 : decode cL_pathAt 13 = .ok (.astore 4, 2) := by decide +kernel
theorem dL_pathAt_15 : decode cL_pathAt 15 = .ok (.iconst 1, 1) := by decide +kernel
theorem dL_pathAt_16 : decode cL_pathAt 16 = .ok (.ireturn, 1) := by decide +kernel
theorem dL_pathAt_17 : decode cL_pathAt 17 = .ok (.iconst 0, 1) := by decide +kernel
theorem dL_pathAt_18 : decode cL_pathAt 18 = .ok (.ireturn, 1) := by decide +kernel
theorem dL_dominates_0 : decode cL_dominates 0 = .ok (.aload_n 3, 1) := by decide +kernel
theorem dL_dominates_1 : decode cL_dominates 1 = .ok (.iconst 0, 1) := by decide +kernel
theorem dL_dominates_2 : decode cL_dominates 2 = .ok (.aload_n 0, 1) := by decide +kernel
theorem dL_dominates_3 : decode cL_dominates 3 = .ok (.iload_n 1, 1) := by decide +kernel
theorem dL_dominates_4 : decode cL_dominates 4 = .ok (.iload_n 2, 1) := by decide +kernel
theorem dL_dominates_5 : decode cL_dominates 5 = .ok (.invokevirtual 68, 3) := by decide +kernel
theorem dL_dominates_8 : decode cL_dominates 8 = .ok (.ifCond .eq 7, 3) := by decide +kernel
theorem dL_dominates_11 : decode cL_dominates 11 = .ok (.lconst 1, 1) := by decide +kernel
theorem dL_dominates_12 : decode cL_dominates 12 = .ok (.goto 4, 3) := by decide +kernel
theorem dL_dominates_15 : decode cL_dominates 15 = .ok (.lconst 0, 1) := by decide +kernel
theorem dL_dominates_16 : decode cL_dominates 16 = .ok (.lastore, 1) := by decide +kernel
theorem dL_dominates_17 : decode cL_dominates 17 = .ok (.goto 7, 3) := by decide +kernel
theorem dL_dominates_20 : decode cL_dominates 20 = .ok (.astore 4, 2) := by decide +kernel
theorem dL_dominates_22 : decode cL_dominates 22 = .ok (.iconst 1, 1) := by decide +kernel
theorem dL_dominates_23 : decode cL_dominates 23 = .ok (.ireturn, 1) := by decide +kernel
theorem dL_dominates_24 : decode cL_dominates 24 = .ok (.iconst 0, 1) := by decide +kernel
theorem dL_dominates_25 : decode cL_dominates 25 = .ok (.ireturn, 1) := by decide +kernel
theorem dL_dominator_0 : decode cL_dominator 0 = .ok (.aload_n 2, 1) := by decide +kernel
theorem dL_dominator_1 : decode cL_dominator 1 = .ok (.iconst 0, 1) := by decide +kernel
theorem dL_dominator_2 : decode cL_dominator 2 = .ok (.aload_n 0, 1) := by decide +kernel
theorem dL_dominator_3 : decode cL_dominator 3 = .ok (.iload_n 1, 1) := by decide +kernel
theorem dL_dominator_4 : decode cL_dominator 4 = .ok (.invokevirtual 71, 3) := by decide +kernel
theorem dL_dominator_7 : decode cL_dominator 7 = .ok (.i2l, 1) := by decide +kernel
theorem dL_dominator_8 : decode cL_dominator 8 = .ok (.lastore, 1) := by decide +kernel
theorem dL_dominator_9 : decode cL_dominator 9 = .ok (.goto 6, 3) := by decide +kernel
theorem dL_dominator_12 : decode cL_dominator 12 = .ok (.astore_n 3, 1) := by decide +kernel
theorem dL_dominator_13 : decode cL_dominator 13 = .ok (.iconst 1, 1) := by decide +kernel
theorem dL_dominator_14 : decode cL_dominator 14 = .ok (.ireturn, 1) := by decide +kernel
theorem dL_dominator_15 : decode cL_dominator 15 = .ok (.iconst 0, 1) := by decide +kernel
theorem dL_dominator_16 : decode cL_dominator 16 = .ok (.ireturn, 1) := by decide +kernel
theorem dL_depth_0 : decode cL_depth 0 = .ok (.aload_n 2, 1) := by decide +kernel
theorem dL_depth_1 : decode cL_depth 1 = .ok (.iconst 0, 1) := by decide +kernel
theorem dL_depth_2 : decode cL_depth 2 = .ok (.aload_n 0, 1) := by decide +kernel
theorem dL_depth_3 : decode cL_depth 3 = .ok (.iload_n 1, 1) := by decide +kernel
theorem dL_depth_4 : decode cL_depth 4 = .ok (.invokevirtual 74, 3) := by decide +kernel
theorem dL_depth_7 : decode cL_depth 7 = .ok (.i2l, 1) := by decide +kernel
theorem dL_depth_8 : decode cL_depth 8 = .ok (.lastore, 1) := by decide +kernel
theorem dL_depth_9 : decode cL_depth 9 = .ok (.goto 6, 3) := by decide +kernel
theorem dL_depth_12 : decode cL_depth 12 = .ok (.astore_n 3, 1) := by decide +kernel
theorem dL_depth_13 : decode cL_depth 13 = .ok (.iconst 1, 1) := by decide +kernel
theorem dL_depth_14 : decode cL_depth 14 = .ok (.ireturn, 1) := by decide +kernel
theorem dL_depth_15 : decode cL_depth 15 = .ok (.iconst 0, 1) := by decide +kernel
theorem dL_depth_16 : decode cL_depth 16 = .ok (.ireturn, 1) := by decide +kernel
theorem dL_dominatedAt_0 : decode cL_dominatedAt 0 = .ok (.aload_n 3, 1) := by decide +kernel
theorem dL_dominatedAt_1 : decode cL_dominatedAt 1 = .ok (.iconst 0, 1) := by decide +kernel
theorem dL_dominatedAt_2 : decode cL_dominatedAt 2 = .ok (.aload_n 0, 1) := by decide +kernel
theorem dL_dominatedAt_3 : decode cL_dominatedAt 3 = .ok (.iload_n 1, 1) := by decide +kernel
theorem dL_dominatedAt_4 : decode cL_dominatedAt 4 = .ok (.iload_n 2, 1) := by decide +kernel
theorem dL_dominatedAt_5 : decode cL_dominatedAt 5 = .ok (.invokevirtual 77, 3) := by decide +kernel
theorem dL_dominatedAt_8 : decode cL_dominatedAt 8 = .ok (.i2l, 1) := by decide +kernel
theorem dL_dominatedAt_9 : decode cL_dominatedAt 9 = .ok (.lastore, 1) := by decide +kernel
theorem dL_dominatedAt_10 : decode cL_dominatedAt 10 = .ok (.goto 7, 3) := by decide +kernel
theorem dL_dominatedAt_13 : decode cL_dominatedAt 13 = .ok (.astore 4, 2) := by decide +kernel
theorem dL_dominatedAt_15 : decode cL_dominatedAt 15 = .ok (.iconst 1, 1) := by decide +kernel
theorem dL_dominatedAt_16 : decode cL_dominatedAt 16 = .ok (.ireturn, 1) := by decide +kernel
theorem dL_dominatedAt_17 : decode cL_dominatedAt 17 = .ok (.iconst 0, 1) := by decide +kernel
theorem dL_dominatedAt_18 : decode cL_dominatedAt 18 = .ok (.ireturn, 1) := by decide +kernel
theorem dL_retainedSize_0 : decode cL_retainedSize 0 = .ok (.aload_n 2, 1) := by decide +kernel
theorem dL_retainedSize_1 : decode cL_retainedSize 1 = .ok (.iconst 0, 1) := by decide +kernel
theorem dL_retainedSize_2 : decode cL_retainedSize 2 = .ok (.aload_n 0, 1) := by decide +kernel
theorem dL_retainedSize_3 : decode cL_retainedSize 3 = .ok (.iload_n 1, 1) := by decide +kernel
theorem dL_retainedSize_4 : decode cL_retainedSize 4 = .ok (.invokevirtual 80, 3) := by decide +kernel
theorem dL_retainedSize_7 : decode cL_retainedSize 7 = .ok (.i2l, 1) := by decide +kernel
theorem dL_retainedSize_8 : decode cL_retainedSize 8 = .ok (.lastore, 1) := by decide +kernel
theorem dL_retainedSize_9 : decode cL_retainedSize 9 = .ok (.goto 6, 3) := by decide +kernel
theorem dL_retainedSize_12 : decode cL_retainedSize 12 = .ok (.astore_n 3, 1) := by decide +kernel
theorem dL_retainedSize_13 : decode cL_retainedSize 13 = .ok (.iconst 1, 1) := by decide +kernel
theorem dL_retainedSize_14 : decode cL_retainedSize 14 = .ok (.ireturn, 1) := by decide +kernel
theorem dL_retainedSize_15 : decode cL_retainedSize 15 = .ok (.iconst 0, 1) := by decide +kernel
theorem dL_retainedSize_16 : decode cL_retainedSize 16 = .ok (.ireturn, 1) := by decide +kernel
theorem dL_retainedObjects_0 : decode cL_retainedObjects 0 = .ok (.aload_n 2, 1) := by decide +kernel
theorem dL_retainedObjects_1 : decode cL_retainedObjects 1 = .ok (.iconst 0, 1) := by decide +kernel
theorem dL_retainedObjects_2 : decode cL_retainedObjects 2 = .ok (.aload_n 0, 1) := by decide +kernel
theorem dL_retainedObjects_3 : decode cL_retainedObjects 3 = .ok (.iload_n 1, 1) := by decide +kernel
theorem dL_retainedObjects_4 : decode cL_retainedObjects 4 = .ok (.invokevirtual 83, 3) := by decide +kernel
theorem dL_retainedObjects_7 : decode cL_retainedObjects 7 = .ok (.i2l, 1) := by decide +kernel
theorem dL_retainedObjects_8 : decode cL_retainedObjects 8 = .ok (.lastore, 1) := by decide +kernel
theorem dL_retainedObjects_9 : decode cL_retainedObjects 9 = .ok (.goto 6, 3) := by decide +kernel
theorem dL_retainedObjects_12 : decode cL_retainedObjects 12 = .ok (.astore_n 3, 1) := by decide +kernel
theorem dL_retainedObjects_13 : decode cL_retainedObjects 13 = .ok (.iconst 1, 1) := by decide +kernel
theorem dL_retainedObjects_14 : decode cL_retainedObjects 14 = .ok (.ireturn, 1) := by decide +kernel
theorem dL_retainedObjects_15 : decode cL_retainedObjects 15 = .ok (.iconst 0, 1) := by decide +kernel
theorem dL_retainedObjects_16 : decode cL_retainedObjects 16 = .ok (.ireturn, 1) := by decide +kernel
theorem dL_component_0 : decode cL_component 0 = .ok (.aload_n 2, 1) := by decide +kernel
theorem dL_component_1 : decode cL_component 1 = .ok (.iconst 0, 1) := by decide +kernel
theorem dL_component_2 : decode cL_component 2 = .ok (.aload_n 0, 1) := by decide +kernel
theorem dL_component_3 : decode cL_component 3 = .ok (.iload_n 1, 1) := by decide +kernel
theorem dL_component_4 : decode cL_component 4 = .ok (.invokevirtual 86, 3) := by decide +kernel
theorem dL_component_7 : decode cL_component 7 = .ok (.i2l, 1) := by decide +kernel
theorem dL_component_8 : decode cL_component 8 = .ok (.lastore, 1) := by decide +kernel
theorem dL_component_9 : decode cL_component 9 = .ok (.goto 6, 3) := by decide +kernel
theorem dL_component_12 : decode cL_component 12 = .ok (.astore_n 3, 1) := by decide +kernel
theorem dL_component_13 : decode cL_component 13 = .ok (.iconst 1, 1) := by decide +kernel
theorem dL_component_14 : decode cL_component 14 = .ok (.ireturn, 1) := by decide +kernel
theorem dL_component_15 : decode cL_component 15 = .ok (.iconst 0, 1) := by decide +kernel
theorem dL_component_16 : decode cL_component 16 = .ok (.ireturn, 1) := by decide +kernel
theorem dL_componentSize_0 : decode cL_componentSize 0 = .ok (.aload_n 2, 1) := by decide +kernel
theorem dL_componentSize_1 : decode cL_componentSize 1 = .ok (.iconst 0, 1) := by decide +kernel
theorem dL_componentSize_2 : decode cL_componentSize 2 = .ok (.aload_n 0, 1) := by decide +kernel
theorem dL_componentSize_3 : decode cL_componentSize 3 = .ok (.iload_n 1, 1) := by decide +kernel
theorem dL_componentSize_4 : decode cL_componentSize 4 = .ok (.invokevirtual 89, 3) := by decide +kernel
theorem dL_componentSize_7 : decode cL_componentSize 7 = .ok (.i2l, 1) := by decide +kernel
theorem dL_componentSize_8 : decode cL_componentSize 8 = .ok (.lastore, 1) := by decide +kernel
theorem dL_componentSize_9 : decode cL_componentSize 9 = .ok (.goto 6, 3) := by decide +kernel
theorem dL_componentSize_12 : decode cL_componentSize 12 = .ok (.astore_n 3, 1) := by decide +kernel
theorem dL_componentSize_13 : decode cL_componentSize 13 = .ok (.iconst 1, 1) := by decide +kernel
theorem dL_componentSize_14 : decode cL_componentSize 14 = .ok (.ireturn, 1) := by decide +kernel
theorem dL_componentSize_15 : decode cL_componentSize 15 = .ok (.iconst 0, 1) := by decide +kernel
theorem dL_componentSize_16 : decode cL_componentSize 16 = .ok (.ireturn, 1) := by decide +kernel
theorem dL_freedByClearing_0 : decode cL_freedByClearing 0 = .ok (.aload_n 3, 1) := by decide +kernel
theorem dL_freedByClearing_1 : decode cL_freedByClearing 1 = .ok (.iconst 0, 1) := by decide +kernel
theorem dL_freedByClearing_2 : decode cL_freedByClearing 2 = .ok (.aload_n 0, 1) := by decide +kernel
theorem dL_freedByClearing_3 : decode cL_freedByClearing 3 = .ok (.iload_n 1, 1) := by decide +kernel
theorem dL_freedByClearing_4 : decode cL_freedByClearing 4 = .ok (.iload_n 2, 1) := by decide +kernel
theorem dL_freedByClearing_5 : decode cL_freedByClearing 5 = .ok (.invokevirtual 92, 3) := by decide +kernel
theorem dL_freedByClearing_8 : decode cL_freedByClearing 8 = .ok (.i2l, 1) := by decide +kernel
theorem dL_freedByClearing_9 : decode cL_freedByClearing 9 = .ok (.lastore, 1) := by decide +kernel
theorem dL_freedByClearing_10 : decode cL_freedByClearing 10 = .ok (.goto 7, 3) := by decide +kernel
theorem dL_freedByClearing_13 : decode cL_freedByClearing 13 = .ok (.astore 4, 2) := by decide +kernel
theorem dL_freedByClearing_15 : decode cL_freedByClearing 15 = .ok (.iconst 1, 1) := by decide +kernel
theorem dL_freedByClearing_16 : decode cL_freedByClearing 16 = .ok (.ireturn, 1) := by decide +kernel
theorem dL_freedByClearing_17 : decode cL_freedByClearing 17 = .ok (.iconst 0, 1) := by decide +kernel
theorem dL_freedByClearing_18 : decode cL_freedByClearing 18 = .ok (.ireturn, 1) := by decide +kernel
theorem dL_freedByUnrooting_0 : decode cL_freedByUnrooting 0 = .ok (.aload_n 2, 1) := by decide +kernel
theorem dL_freedByUnrooting_1 : decode cL_freedByUnrooting 1 = .ok (.iconst 0, 1) := by decide +kernel
theorem dL_freedByUnrooting_2 : decode cL_freedByUnrooting 2 = .ok (.aload_n 0, 1) := by decide +kernel
theorem dL_freedByUnrooting_3 : decode cL_freedByUnrooting 3 = .ok (.iload_n 1, 1) := by decide +kernel
theorem dL_freedByUnrooting_4 : decode cL_freedByUnrooting 4 = .ok (.invokevirtual 95, 3) := by decide +kernel
theorem dL_freedByUnrooting_7 : decode cL_freedByUnrooting 7 = .ok (.i2l, 1) := by decide +kernel
theorem dL_freedByUnrooting_8 : decode cL_freedByUnrooting 8 = .ok (.lastore, 1) := by decide +kernel
theorem dL_freedByUnrooting_9 : decode cL_freedByUnrooting 9 = .ok (.goto 6, 3) := by decide +kernel
theorem dL_freedByUnrooting_12 : decode cL_freedByUnrooting 12 = .ok (.astore_n 3, 1) := by decide +kernel
theorem dL_freedByUnrooting_13 : decode cL_freedByUnrooting 13 = .ok (.iconst 1, 1) := by decide +kernel
theorem dL_freedByUnrooting_14 : decode cL_freedByUnrooting 14 = .ok (.ireturn, 1) := by decide +kernel
theorem dL_freedByUnrooting_15 : decode cL_freedByUnrooting 15 = .ok (.iconst 0, 1) := by decide +kernel
theorem dL_freedByUnrooting_16 : decode cL_freedByUnrooting 16 = .ok (.ireturn, 1) := by decide +kernel
theorem dL_group_0 : decode cL_group 0 = .ok (.aload 4, 2) := by decide +kernel
theorem dL_group_2 : decode cL_group 2 = .ok (.iconst 0, 1) := by decide +kernel
theorem dL_group_3 : decode cL_group 3 = .ok (.aload_n 0, 1) := by decide +kernel
theorem dL_group_4 : decode cL_group 4 = .ok (.iload_n 1, 1) := by decide +kernel
theorem dL_group_5 : decode cL_group 5 = .ok (.iload_n 2, 1) := by decide +kernel
theorem dL_group_6 : decode cL_group 6 = .ok (.iload_n 3, 1) := by decide +kernel
theorem dL_group_7 : decode cL_group 7 = .ok (.invokevirtual 98, 3) := by decide +kernel
theorem dL_group_10 : decode cL_group 10 = .ok (.i2l, 1) := by decide +kernel
theorem dL_group_11 : decode cL_group 11 = .ok (.lastore, 1) := by decide +kernel
theorem dL_group_12 : decode cL_group 12 = .ok (.goto 11, 3) := by decide +kernel
theorem dL_group_15 : decode cL_group 15 = .ok (.astore 5, 2) := by decide +kernel
theorem dL_group_17 : decode cL_group 17 = .ok (.iconst 1, 1) := by decide +kernel
theorem dL_group_18 : decode cL_group 18 = .ok (.ireturn, 1) := by decide +kernel
theorem dL_group_19 : decode cL_group 19 = .ok (.astore 5, 2) := by decide +kernel
theorem dL_group_21 : decode cL_group 21 = .ok (.iconst 2, 1) := by decide +kernel
theorem dL_group_22 : decode cL_group 22 = .ok (.ireturn, 1) := by decide +kernel
theorem dL_group_23 : decode cL_group 23 = .ok (.iconst 0, 1) := by decide +kernel
theorem dL_group_24 : decode cL_group 24 = .ok (.ireturn, 1) := by decide +kernel
theorem dL_meanRetainedBits_0 : decode cL_meanRetainedBits 0 = .ok (.aload_n 2, 1) := by decide +kernel
theorem dL_meanRetainedBits_1 : decode cL_meanRetainedBits 1 = .ok (.iconst 0, 1) := by decide +kernel
theorem dL_meanRetainedBits_2 : decode cL_meanRetainedBits 2 = .ok (.aload_n 0, 1) := by decide +kernel
theorem dL_meanRetainedBits_3 : decode cL_meanRetainedBits 3 = .ok (.iload_n 1, 1) := by decide +kernel
theorem dL_meanRetainedBits_4 : decode cL_meanRetainedBits 4 = .ok (.invokevirtual 102, 3) := by decide +kernel
theorem dL_meanRetainedBits_7 : decode cL_meanRetainedBits 7 = .ok (.lastore, 1) := by decide +kernel
theorem dL_meanRetainedBits_8 : decode cL_meanRetainedBits 8 = .ok (.goto 6, 3) := by decide +kernel
theorem dL_meanRetainedBits_11 : decode cL_meanRetainedBits 11 = .ok (.astore_n 3, 1) := by decide +kernel
theorem dL_meanRetainedBits_12 : decode cL_meanRetainedBits 12 = .ok (.iconst 1, 1) := by decide +kernel
theorem dL_meanRetainedBits_13 : decode cL_meanRetainedBits 13 = .ok (.ireturn, 1) := by decide +kernel
theorem dL_meanRetainedBits_14 : decode cL_meanRetainedBits 14 = .ok (.iconst 0, 1) := by decide +kernel
theorem dL_meanRetainedBits_15 : decode cL_meanRetainedBits 15 = .ok (.ireturn, 1) := by decide +kernel
theorem dL_shareBits_0 : decode cL_shareBits 0 = .ok (.aload_n 2, 1) := by decide +kernel
theorem dL_shareBits_1 : decode cL_shareBits 1 = .ok (.iconst 0, 1) := by decide +kernel
theorem dL_shareBits_2 : decode cL_shareBits 2 = .ok (.aload_n 0, 1) := by decide +kernel
theorem dL_shareBits_3 : decode cL_shareBits 3 = .ok (.iload_n 1, 1) := by decide +kernel
theorem dL_shareBits_4 : decode cL_shareBits 4 = .ok (.invokevirtual 106, 3) := by decide +kernel
theorem dL_shareBits_7 : decode cL_shareBits 7 = .ok (.i2l, 1) := by decide +kernel
theorem dL_shareBits_8 : decode cL_shareBits 8 = .ok (.lastore, 1) := by decide +kernel
theorem dL_shareBits_9 : decode cL_shareBits 9 = .ok (.goto 6, 3) := by decide +kernel
theorem dL_shareBits_12 : decode cL_shareBits 12 = .ok (.astore_n 3, 1) := by decide +kernel
theorem dL_shareBits_13 : decode cL_shareBits 13 = .ok (.iconst 1, 1) := by decide +kernel
theorem dL_shareBits_14 : decode cL_shareBits 14 = .ok (.ireturn, 1) := by decide +kernel
theorem dL_shareBits_15 : decode cL_shareBits 15 = .ok (.iconst 0, 1) := by decide +kernel
theorem dL_shareBits_16 : decode cL_shareBits 16 = .ok (.ireturn, 1) := by decide +kernel
theorem dL_suspectAt_0 : decode cL_suspectAt 0 = .ok (.aload_n 3, 1) := by decide +kernel
theorem dL_suspectAt_1 : decode cL_suspectAt 1 = .ok (.iconst 0, 1) := by decide +kernel
theorem dL_suspectAt_2 : decode cL_suspectAt 2 = .ok (.aload_n 0, 1) := by decide +kernel
theorem dL_suspectAt_3 : decode cL_suspectAt 3 = .ok (.iload_n 1, 1) := by decide +kernel
theorem dL_suspectAt_4 : decode cL_suspectAt 4 = .ok (.iload_n 2, 1) := by decide +kernel
theorem dL_suspectAt_5 : decode cL_suspectAt 5 = .ok (.invokevirtual 109, 3) := by decide +kernel
theorem dL_suspectAt_8 : decode cL_suspectAt 8 = .ok (.i2l, 1) := by decide +kernel
theorem dL_suspectAt_9 : decode cL_suspectAt 9 = .ok (.lastore, 1) := by decide +kernel
theorem dL_suspectAt_10 : decode cL_suspectAt 10 = .ok (.goto 7, 3) := by decide +kernel
theorem dL_suspectAt_13 : decode cL_suspectAt 13 = .ok (.astore 4, 2) := by decide +kernel
theorem dL_suspectAt_15 : decode cL_suspectAt 15 = .ok (.iconst 1, 1) := by decide +kernel
theorem dL_suspectAt_16 : decode cL_suspectAt 16 = .ok (.ireturn, 1) := by decide +kernel
theorem dL_suspectAt_17 : decode cL_suspectAt 17 = .ok (.iconst 0, 1) := by decide +kernel
theorem dL_suspectAt_18 : decode cL_suspectAt 18 = .ok (.ireturn, 1) := by decide +kernel
theorem dL_accumulationPoint_0 : decode cL_accumulationPoint 0 = .ok (.aload_n 3, 1) := by decide +kernel
theorem dL_accumulationPoint_1 : decode cL_accumulationPoint 1 = .ok (.iconst 0, 1) := by decide +kernel
theorem dL_accumulationPoint_2 : decode cL_accumulationPoint 2 = .ok (.aload_n 0, 1) := by decide +kernel
theorem dL_accumulationPoint_3 : decode cL_accumulationPoint 3 = .ok (.iload_n 1, 1) := by decide +kernel
theorem dL_accumulationPoint_4 : decode cL_accumulationPoint 4 = .ok (.iload_n 2, 1) := by decide +kernel
theorem dL_accumulationPoint_5 : decode cL_accumulationPoint 5 = .ok (.invokevirtual 112, 3) := by decide +kernel
theorem dL_accumulationPoint_8 : decode cL_accumulationPoint 8 = .ok (.i2l, 1) := by decide +kernel
theorem dL_accumulationPoint_9 : decode cL_accumulationPoint 9 = .ok (.lastore, 1) := by decide +kernel
theorem dL_accumulationPoint_10 : decode cL_accumulationPoint 10 = .ok (.goto 15, 3) := by decide +kernel
theorem dL_accumulationPoint_13 : decode cL_accumulationPoint 13 = .ok (.astore 4, 2) := by decide +kernel
theorem dL_accumulationPoint_15 : decode cL_accumulationPoint 15 = .ok (.iconst 1, 1) := by decide +kernel
theorem dL_accumulationPoint_16 : decode cL_accumulationPoint 16 = .ok (.ireturn, 1) := by decide +kernel
theorem dL_accumulationPoint_17 : decode cL_accumulationPoint 17 = .ok (.astore 4, 2) := by decide +kernel
theorem dL_accumulationPoint_19 : decode cL_accumulationPoint 19 = .ok (.iconst 2, 1) := by decide +kernel
theorem dL_accumulationPoint_20 : decode cL_accumulationPoint 20 = .ok (.ireturn, 1) := by decide +kernel
theorem dL_accumulationPoint_21 : decode cL_accumulationPoint 21 = .ok (.astore 4, 2) := by decide +kernel
theorem dL_accumulationPoint_23 : decode cL_accumulationPoint 23 = .ok (.iconst 3, 1) := by decide +kernel
theorem dL_accumulationPoint_24 : decode cL_accumulationPoint 24 = .ok (.ireturn, 1) := by decide +kernel
theorem dL_accumulationPoint_25 : decode cL_accumulationPoint 25 = .ok (.iconst 0, 1) := by decide +kernel
theorem dL_accumulationPoint_26 : decode cL_accumulationPoint 26 = .ok (.ireturn, 1) := by decide +kernel
theorem dL_append_0 : decode cL_append 0 = .ok (.aload_n 2, 1) := by decide +kernel
theorem dL_append_1 : decode cL_append 1 = .ok (.iconst 0, 1) := by decide +kernel
theorem dL_append_2 : decode cL_append 2 = .ok (.aload_n 0, 1) := by decide +kernel
theorem dL_append_3 : decode cL_append 3 = .ok (.iload_n 1, 1) := by decide +kernel
theorem dL_append_4 : decode cL_append 4 = .ok (.invokevirtual 115, 3) := by decide +kernel
theorem dL_append_7 : decode cL_append 7 = .ok (.i2l, 1) := by decide +kernel
theorem dL_append_8 : decode cL_append 8 = .ok (.lastore, 1) := by decide +kernel
theorem dL_append_9 : decode cL_append 9 = .ok (.goto 9, 3) := by decide +kernel
theorem dL_append_12 : decode cL_append 12 = .ok (.astore_n 3, 1) := by decide +kernel
theorem dL_append_13 : decode cL_append 13 = .ok (.iconst 1, 1) := by decide +kernel
theorem dL_append_14 : decode cL_append 14 = .ok (.ireturn, 1) := by decide +kernel
theorem dL_append_15 : decode cL_append 15 = .ok (.astore_n 3, 1) := by decide +kernel
theorem dL_append_16 : decode cL_append 16 = .ok (.iconst 2, 1) := by decide +kernel
theorem dL_append_17 : decode cL_append 17 = .ok (.ireturn, 1) := by decide +kernel
theorem dL_append_18 : decode cL_append 18 = .ok (.iconst 0, 1) := by decide +kernel
theorem dL_append_19 : decode cL_append 19 = .ok (.ireturn, 1) := by decide +kernel
theorem dL_take_0 : decode cL_take 0 = .ok (.aload_n 2, 1) := by decide +kernel
theorem dL_take_1 : decode cL_take 1 = .ok (.iconst 0, 1) := by decide +kernel
theorem dL_take_2 : decode cL_take 2 = .ok (.aload_n 0, 1) := by decide +kernel
theorem dL_take_3 : decode cL_take 3 = .ok (.iload_n 1, 1) := by decide +kernel
theorem dL_take_4 : decode cL_take 4 = .ok (.invokevirtual 118, 3) := by decide +kernel
theorem dL_take_7 : decode cL_take 7 = .ok (.i2l, 1) := by decide +kernel
theorem dL_take_8 : decode cL_take 8 = .ok (.lastore, 1) := by decide +kernel
theorem dL_take_9 : decode cL_take 9 = .ok (.goto 6, 3) := by decide +kernel
theorem dL_take_12 : decode cL_take 12 = .ok (.astore_n 3, 1) := by decide +kernel
theorem dL_take_13 : decode cL_take 13 = .ok (.iconst 1, 1) := by decide +kernel
theorem dL_take_14 : decode cL_take 14 = .ok (.ireturn, 1) := by decide +kernel
theorem dL_take_15 : decode cL_take 15 = .ok (.iconst 0, 1) := by decide +kernel
theorem dL_take_16 : decode cL_take 16 = .ok (.ireturn, 1) := by decide +kernel
theorem dL_compare_0 : decode cL_compare 0 = .ok (.aload_n 3, 1) := by decide +kernel
theorem dL_compare_1 : decode cL_compare 1 = .ok (.iconst 0, 1) := by decide +kernel
theorem dL_compare_2 : decode cL_compare 2 = .ok (.aload_n 0, 1) := by decide +kernel
theorem dL_compare_3 : decode cL_compare 3 = .ok (.iload_n 1, 1) := by decide +kernel
theorem dL_compare_4 : decode cL_compare 4 = .ok (.iload_n 2, 1) := by decide +kernel
theorem dL_compare_5 : decode cL_compare 5 = .ok (.invokevirtual 121, 3) := by decide +kernel
theorem dL_compare_8 : decode cL_compare 8 = .ok (.i2l, 1) := by decide +kernel
theorem dL_compare_9 : decode cL_compare 9 = .ok (.lastore, 1) := by decide +kernel
theorem dL_compare_10 : decode cL_compare 10 = .ok (.goto 15, 3) := by decide +kernel
theorem dL_compare_13 : decode cL_compare 13 = .ok (.astore 4, 2) := by decide +kernel
theorem dL_compare_15 : decode cL_compare 15 = .ok (.iconst 1, 1) := by decide +kernel
theorem dL_compare_16 : decode cL_compare 16 = .ok (.ireturn, 1) := by decide +kernel
theorem dL_compare_17 : decode cL_compare 17 = .ok (.astore 4, 2) := by decide +kernel
theorem dL_compare_19 : decode cL_compare 19 = .ok (.iconst 2, 1) := by decide +kernel
theorem dL_compare_20 : decode cL_compare 20 = .ok (.ireturn, 1) := by decide +kernel
theorem dL_compare_21 : decode cL_compare 21 = .ok (.astore 4, 2) := by decide +kernel
theorem dL_compare_23 : decode cL_compare 23 = .ok (.iconst 3, 1) := by decide +kernel
theorem dL_compare_24 : decode cL_compare 24 = .ok (.ireturn, 1) := by decide +kernel
theorem dL_compare_25 : decode cL_compare 25 = .ok (.iconst 0, 1) := by decide +kernel
theorem dL_compare_26 : decode cL_compare 26 = .ok (.ireturn, 1) := by decide +kernel
theorem dL_growth_0 : decode cL_growth 0 = .ok (.aload_n 3, 1) := by decide +kernel
theorem dL_growth_1 : decode cL_growth 1 = .ok (.iconst 0, 1) := by decide +kernel
theorem dL_growth_2 : decode cL_growth 2 = .ok (.aload_n 0, 1) := by decide +kernel
theorem dL_growth_3 : decode cL_growth 3 = .ok (.iload_n 1, 1) := by decide +kernel
theorem dL_growth_4 : decode cL_growth 4 = .ok (.iload_n 2, 1) := by decide +kernel
theorem dL_growth_5 : decode cL_growth 5 = .ok (.invokevirtual 124, 3) := by decide +kernel
theorem dL_growth_8 : decode cL_growth 8 = .ok (.i2l, 1) := by decide +kernel
theorem dL_growth_9 : decode cL_growth 9 = .ok (.lastore, 1) := by decide +kernel
theorem dL_growth_10 : decode cL_growth 10 = .ok (.goto 11, 3) := by decide +kernel
theorem dL_growth_13 : decode cL_growth 13 = .ok (.astore 4, 2) := by decide +kernel
theorem dL_growth_15 : decode cL_growth 15 = .ok (.iconst 1, 1) := by decide +kernel
theorem dL_growth_16 : decode cL_growth 16 = .ok (.ireturn, 1) := by decide +kernel
theorem dL_growth_17 : decode cL_growth 17 = .ok (.astore 4, 2) := by decide +kernel
theorem dL_growth_19 : decode cL_growth 19 = .ok (.iconst 2, 1) := by decide +kernel
theorem dL_growth_20 : decode cL_growth 20 = .ok (.ireturn, 1) := by decide +kernel
theorem dL_growth_21 : decode cL_growth 21 = .ok (.iconst 0, 1) := by decide +kernel
theorem dL_growth_22 : decode cL_growth 22 = .ok (.ireturn, 1) := by decide +kernel
theorem dL_undo_0 : decode cL_undo 0 = .ok (.aload_n 1, 1) := by decide +kernel
theorem dL_undo_1 : decode cL_undo 1 = .ok (.iconst 0, 1) := by decide +kernel
theorem dL_undo_2 : decode cL_undo 2 = .ok (.aload_n 0, 1) := by decide +kernel
theorem dL_undo_3 : decode cL_undo 3 = .ok (.invokevirtual 127, 3) := by decide +kernel
theorem dL_undo_6 : decode cL_undo 6 = .ok (.i2l, 1) := by decide +kernel
theorem dL_undo_7 : decode cL_undo 7 = .ok (.lastore, 1) := by decide +kernel
theorem dL_undo_8 : decode cL_undo 8 = .ok (.goto 6, 3) := by decide +kernel
theorem dL_undo_11 : decode cL_undo 11 = .ok (.astore_n 2, 1) := by decide +kernel
theorem dL_undo_12 : decode cL_undo 12 = .ok (.iconst 1, 1) := by decide +kernel
theorem dL_undo_13 : decode cL_undo 13 = .ok (.ireturn, 1) := by decide +kernel
theorem dL_undo_14 : decode cL_undo 14 = .ok (.iconst 0, 1) := by decide +kernel
theorem dL_undo_15 : decode cL_undo 15 = .ok (.ireturn, 1) := by decide +kernel
theorem lmL_7 : Cond.methodLink RL 7 yX8_defineClass ∈ hb_wl := hb_w 818 (by decide +kernel) (by decide +kernel)
theorem clL_13 : Cond.classLink RL 13 hb_e1 ∈ hb_wl := hb_w 815 (by decide +kernel) (by decide +kernel)
theorem clL_15 : Cond.classLink RL 15 hb_e2 ∈ hb_wl := hb_w 816 (by decide +kernel) (by decide +kernel)
theorem clL_17 : Cond.classLink RL 17 hb_e3 ∈ hb_wl := hb_w 817 (by decide +kernel) (by decide +kernel)
theorem lmL_19 : Cond.methodLink RL 19 yX8_classInfo ∈ hb_wl := hb_w 929 (by decide +kernel) (by decide +kernel)
theorem lmL_23 : Cond.methodLink RL 23 yX8_isSubclass ∈ hb_wl := hb_w 938 (by decide +kernel) (by decide +kernel)
theorem lmL_27 : Cond.methodLink RL 27 yX8_newInstance ∈ hb_wl := hb_w 949 (by decide +kernel) (by decide +kernel)
theorem lmL_31 : Cond.methodLink RL 31 yX8_newArray ∈ hb_wl := hb_w 958 (by decide +kernel) (by decide +kernel)
theorem lmL_34 : Cond.methodLink RL 34 yX8_newHolder ∈ hb_wl := hb_w 967 (by decide +kernel) (by decide +kernel)
theorem lmL_38 : Cond.methodLink RL 38 yX8_set ∈ hb_wl := hb_w 976 (by decide +kernel) (by decide +kernel)
theorem lmL_41 : Cond.methodLink RL 41 yX8_get ∈ hb_wl := hb_w 985 (by decide +kernel) (by decide +kernel)
theorem lmL_44 : Cond.methodLink RL 44 yX8_resizeArray ∈ hb_wl := hb_w 993 (by decide +kernel) (by decide +kernel)
theorem lmL_47 : Cond.methodLink RL 47 yX8_referent ∈ hb_wl := hb_w 1008 (by decide +kernel) (by decide +kernel)
theorem lmL_50 : Cond.methodLink RL 50 yX8_addRoot ∈ hb_wl := hb_w 1015 (by decide +kernel) (by decide +kernel)
theorem lmL_53 : Cond.methodLink RL 53 yX8_removeRoot ∈ hb_wl := hb_w 1024 (by decide +kernel) (by decide +kernel)
theorem lmL_56 : Cond.methodLink RL 56 yX8_objectInfo ∈ hb_wl := hb_w 1032 (by decide +kernel) (by decide +kernel)
theorem lmL_59 : Cond.methodLink RL 59 yX8_populate ∈ hb_wl := hb_w 1039 (by decide +kernel) (by decide +kernel)
theorem lmL_62 : Cond.methodLink RL 62 yX8_distance ∈ hb_wl := hb_w 1076 (by decide +kernel) (by decide +kernel)
theorem lmL_65 : Cond.methodLink RL 65 yX8_pathAt ∈ hb_wl := hb_w 1083 (by decide +kernel) (by decide +kernel)
theorem lmL_68 : Cond.methodLink RL 68 yX8_dominates ∈ hb_wl := hb_w 1094 (by decide +kernel) (by decide +kernel)
theorem lmL_71 : Cond.methodLink RL 71 yX8_dominator ∈ hb_wl := hb_w 1101 (by decide +kernel) (by decide +kernel)
theorem lmL_74 : Cond.methodLink RL 74 yX8_depth ∈ hb_wl := hb_w 1108 (by decide +kernel) (by decide +kernel)
theorem lmL_77 : Cond.methodLink RL 77 yX8_dominatedAt ∈ hb_wl := hb_w 1115 (by decide +kernel) (by decide +kernel)
theorem lmL_80 : Cond.methodLink RL 80 yX8_retainedSize ∈ hb_wl := hb_w 1126 (by decide +kernel) (by decide +kernel)
theorem lmL_83 : Cond.methodLink RL 83 yX8_retainedObjects ∈ hb_wl := hb_w 1133 (by decide +kernel) (by decide +kernel)
theorem lmL_86 : Cond.methodLink RL 86 yX8_component ∈ hb_wl := hb_w 1141 (by decide +kernel) (by decide +kernel)
theorem lmL_89 : Cond.methodLink RL 89 yX8_componentSize ∈ hb_wl := hb_w 1148 (by decide +kernel) (by decide +kernel)
theorem lmL_92 : Cond.methodLink RL 92 yX8_freedByClearing ∈ hb_wl := hb_w 1159 (by decide +kernel) (by decide +kernel)
theorem lmL_95 : Cond.methodLink RL 95 yX8_freedByUnrooting ∈ hb_wl := hb_w 1170 (by decide +kernel) (by decide +kernel)
theorem lmL_98 : Cond.methodLink RL 98 yX8_group ∈ hb_wl := hb_w 1181 (by decide +kernel) (by decide +kernel)
theorem lmL_102 : Cond.methodLink RL 102 yX8_meanRetainedBits ∈ hb_wl := hb_w 1193 (by decide +kernel) (by decide +kernel)
theorem lmL_106 : Cond.methodLink RL 106 yX8_shareBits ∈ hb_wl := hb_w 1204 (by decide +kernel) (by decide +kernel)
theorem lmL_109 : Cond.methodLink RL 109 yX8_suspectAt ∈ hb_wl := hb_w 1211 (by decide +kernel) (by decide +kernel)
theorem lmL_112 : Cond.methodLink RL 112 yX8_accumulationPoint ∈ hb_wl := hb_w 1235 (by decide +kernel) (by decide +kernel)
theorem lmL_115 : Cond.methodLink RL 115 yX8_append ∈ hb_wl := hb_w 1248 (by decide +kernel) (by decide +kernel)
theorem lmL_118 : Cond.methodLink RL 118 yX8_take ∈ hb_wl := hb_w 1259 (by decide +kernel) (by decide +kernel)
theorem lmL_121 : Cond.methodLink RL 121 yX8_compare ∈ hb_wl := hb_w 1269 (by decide +kernel) (by decide +kernel)
theorem lmL_124 : Cond.methodLink RL 124 yX8_growth ∈ hb_wl := hb_w 1298 (by decide +kernel) (by decide +kernel)
theorem lmL_127 : Cond.methodLink RL 127 yX8_undo ∈ hb_wl := hb_w 1305 (by decide +kernel) (by decide +kernel)
