theorem dL_addEntity_0 : decode cL_addEntity 0 = .ok (.aload_n 1, 1) := by decide +kernel
theorem dL_addEntity_1 : decode cL_addEntity 1 = .ok (.iconst 0, 1) := by decide +kernel
theorem dL_addEntity_2 : decode cL_addEntity 2 = .ok (.aload_n 0, 1) := by decide +kernel
theorem dL_addEntity_3 : decode cL_addEntity 3 = .ok (.invokevirtual 7, 3) := by decide +kernel
theorem dL_addEntity_6 : decode cL_addEntity 6 = .ok (.i2l, 1) := by decide +kernel
theorem dL_addEntity_7 : decode cL_addEntity 7 = .ok (.lastore, 1) := by decide +kernel
theorem dL_addEntity_8 : decode cL_addEntity 8 = .ok (.goto 6, 3) := by decide +kernel
theorem dL_addEntity_11 : decode cL_addEntity 11 = .ok (.astore_n 2, 1) := by decide +kernel
theorem dL_addEntity_12 : decode cL_addEntity 12 = .ok (.iconst 1, 1) := by decide +kernel
theorem dL_addEntity_13 : decode cL_addEntity 13 = .ok (.ireturn, 1) := by decide +kernel
theorem dL_addEntity_14 : decode cL_addEntity 14 = .ok (.iconst 0, 1) := by decide +kernel
theorem dL_addEntity_15 : decode cL_addEntity 15 = .ok (.ireturn, 1) := by decide +kernel
theorem dL_tell_0 : decode cL_tell 0 = .ok (.aload 6, 2) := by decide +kernel
theorem dL_tell_2 : decode cL_tell 2 = .ok (.iconst 0, 1) := by decide +kernel
theorem dL_tell_3 : decode cL_tell 3 = .ok (.aload_n 0, 1) := by decide +kernel
theorem dL_tell_4 : decode cL_tell 4 = .ok (.iload_n 1, 1) := by decide +kernel
theorem dL_tell_5 : decode cL_tell 5 = .ok (.iload_n 2, 1) := by decide +kernel
theorem dL_tell_6 : decode cL_tell 6 = .ok (.iload_n 3, 1) := by decide +kernel
theorem dL_tell_7 : decode cL_tell 7 = .ok (.iload 4, 2) := by decide +kernel
theorem dL_tell_9 : decode cL_tell 9 = .ok (.iload 5, 2) := by decide +kernel
theorem dL_tell_11 : decode cL_tell 11 = .ok (.invokevirtual 15, 3) := by decide +kernel
theorem dL_tell_14 : decode cL_tell 14 = .ok (.i2l, 1) := by decide +kernel
theorem dL_tell_15 : decode cL_tell 15 = .ok (.lastore, 1) := by decide +kernel
theorem dL_tell_16 : decode cL_tell 16 = .ok (.goto 15, 3) := by decide +kernel
theorem dL_tell_19 : decode cL_tell 19 = .ok (.astore 7, 2) := by decide +kernel
theorem dL_tell_21 : decode cL_tell 21 = .ok (.iconst 1, 1) := by decide +kernel
theorem dL_tell_22 : decode cL_tell 22 = .ok (.ireturn, 1) := by decide +kernel
theorem dL_tell_23 : decode cL_tell 23 = .ok (.astore 7, 2) := by decide +kernel
theorem dL_tell_25 : decode cL_tell 25 = .ok (.iconst 2, 1) := by decide +kernel
theorem dL_tell_26 : decode cL_tell 26 = .ok (.ireturn, 1) := by decide +kernel
theorem dL_tell_27 : decode cL_tell 27 = .ok (.astore 7, 2) := by decide +kernel
theorem dL_tell_29 : decode cL_tell 29 = .ok (.iconst 3, 1) := by decide +kernel
theorem dL_tell_30 : decode cL_tell 30 = .ok (.ireturn, 1) := by decide +kernel
theorem dL_tell_31 : decode cL_tell 31 = .ok (.iconst 0, 1) := by decide +kernel
theorem dL_tell_32 : decode cL_tell 32 = .ok (.ireturn, 1) := by decide +kernel
theorem dL_retract_0 : decode cL_retract 0 = .ok (.aload 5, 2) := by decide +kernel
theorem dL_retract_2 : decode cL_retract 2 = .ok (.iconst 0, 1) := by decide +kernel
theorem dL_retract_3 : decode cL_retract 3 = .ok (.aload_n 0, 1) := by decide +kernel
theorem dL_retract_4 : decode cL_retract 4 = .ok (.iload_n 1, 1) := by decide +kernel
theorem dL_retract_5 : decode cL_retract 5 = .ok (.iload_n 2, 1) := by decide +kernel
theorem dL_retract_6 : decode cL_retract 6 = .ok (.iload_n 3, 1) := by decide +kernel
theorem dL_retract_7 : decode cL_retract 7 = .ok (.iload 4, 2) := by decide +kernel
theorem dL_retract_9 : decode cL_retract 9 = .ok (.invokevirtual 23, 3) := by decide +kernel
theorem dL_retract_12 : decode cL_retract 12 = .ok (.i2l, 1) := by decide +kernel
theorem dL_retract_13 : decode cL_retract 13 = .ok (.lastore, 1) := by decide +kernel
theorem dL_retract_14 : decode cL_retract 14 = .ok (.goto 19, 3) := by decide +kernel
theorem dL_retract_17 : decode cL_retract 17 = .ok (.astore 6, 2) := by decide +kernel
theorem dL_retract_19 : decode cL_retract 19 = .ok (.iconst 1, 1) := by decide +kernel
theorem dL_retract_20 : decode cL_retract 20 = .ok (.ireturn, 1) := by decide +kernel
theorem dL_retract_21 : decode cL_retract 21 = .ok (.astore 6, 2) := by decide +kernel
theorem dL_retract_23 : decode cL_retract 23 = .ok (.iconst 2, 1) := by decide +kernel
theorem dL_retract_24 : decode cL_retract 24 = .ok (.ireturn, 1) := by decide +kernel
theorem dL_retract_25 : decode cL_retract 25 = .ok (.astore 6, 2) := by decide +kernel
theorem dL_retract_27 : decode cL_retract 27 = .ok (.iconst 3, 1) := by decide +kernel
theorem dL_retract_28 : decode cL_retract 28 = .ok (.ireturn, 1) := by decide +kernel
theorem dL_retract_29 : decode cL_retract 29 = .ok (.astore 6, 2) := by decide +kernel
theorem dL_retract_31 : decode cL_retract 31 = .ok (.iconst 4, 1) := by decide +kernel
theorem dL_retract_32 : decode cL_retract 32 = .ok (.ireturn, 1) := by decide +kernel
theorem dL_retract_33 : decode cL_retract 33 = .ok (.iconst 0, 1) := by decide +kernel
theorem dL_retract_34 : decode cL_retract 34 = .ok (.ireturn, 1) := by decide +kernel
theorem dL_correct_0 : decode cL_correct 0 = .ok (.aload 5, 2) := by decide +kernel
theorem dL_correct_2 : decode cL_correct 2 = .ok (.iconst 0, 1) := by decide +kernel
theorem dL_correct_3 : decode cL_correct 3 = .ok (.aload_n 0, 1) := by decide +kernel
theorem dL_correct_4 : decode cL_correct 4 = .ok (.iload_n 1, 1) := by decide +kernel
theorem dL_correct_5 : decode cL_correct 5 = .ok (.iload_n 2, 1) := by decide +kernel
theorem dL_correct_6 : decode cL_correct 6 = .ok (.iload_n 3, 1) := by decide +kernel
theorem dL_correct_7 : decode cL_correct 7 = .ok (.iload 4, 2) := by decide +kernel
theorem dL_correct_9 : decode cL_correct 9 = .ok (.invokevirtual 29, 3) := by decide +kernel
theorem dL_correct_12 : decode cL_correct 12 = .ok (.i2l, 1) := by decide +kernel
theorem dL_correct_13 : decode cL_correct 13 = .ok (.lastore, 1) := by decide +kernel
theorem dL_correct_14 : decode cL_correct 14 = .ok (.goto 19, 3) := by decide +kernel
theorem dL_correct_17 : decode cL_correct 17 = .ok (.astore 6, 2) := by decide +kernel
theorem dL_correct_19 : decode cL_correct 19 = .ok (.iconst 1, 1) := by decide +kernel
theorem dL_correct_20 : decode cL_correct 20 = .ok (.ireturn, 1) := by decide +kernel
theorem dL_correct_21 : decode cL_correct 21 = .ok (.astore 6, 2) := by decide +kernel
theorem dL_correct_23 : decode cL_correct 23 = .ok (.iconst 2, 1) := by decide +kernel
theorem dL_correct_24 : decode cL_correct 24 = .ok (.ireturn, 1) := by decide +kernel
theorem dL_correct_25 : decode cL_correct 25 = .ok (.astore 6, 2) := by decide +kernel
theorem dL_correct_27 : decode cL_correct 27 = .ok (.iconst 3, 1) := by decide +kernel
theorem dL_correct_28 : decode cL_correct 28 = .ok (.ireturn, 1) := by decide +kernel
theorem dL_correct_29 : decode cL_correct 29 = .ok (.astore 6, 2) := by decide +kernel
theorem dL_correct_31 : decode cL_correct 31 = .ok (.iconst 4, 1) := by decide +kernel
theorem dL_correct_32 : decode cL_correct 32 = .ok (.ireturn, 1) := by decide +kernel
theorem dL_correct_33 : decode cL_correct 33 = .ok (.iconst 0, 1) := by decide +kernel
theorem dL_correct_34 : decode cL_correct 34 = .ok (.ireturn, 1) := by decide +kernel
theorem dL_operationAt_0 : decode cL_operationAt 0 = .ok (.aload_n 2, 1) := by decide +kernel
theorem dL_operationAt_1 : decode cL_operationAt 1 = .ok (.iconst 0, 1) := by decide +kernel
theorem dL_operationAt_2 : decode cL_operationAt 2 = .ok (.aload_n 0, 1) := by decide +kernel
theorem dL_operationAt_3 : decode cL_operationAt 3 = .ok (.iload_n 1, 1) := by decide +kernel
theorem dL_operationAt_4 : decode cL_operationAt 4 = .ok (.invokevirtual 32, 3) := by decide +kernel
theorem dL_operationAt_7 : decode cL_operationAt 7 = .ok (.i2l, 1) := by decide +kernel
theorem dL_operationAt_8 : decode cL_operationAt 8 = .ok (.lastore, 1) := by decide +kernel
theorem dL_operationAt_9 : decode cL_operationAt 9 = .ok (.goto 6, 3) := by decide +kernel
theorem dL_operationAt_12 : decode cL_operationAt 12 = .ok (.astore_n 3, 1) := by decide +kernel
theorem dL_operationAt_13 : decode cL_operationAt 13 = .ok (.iconst 1, 1) := by decide +kernel
theorem dL_operationAt_14 : decode cL_operationAt 14 = .ok (.ireturn, 1) := by decide +kernel
theorem dL_operationAt_15 : decode cL_operationAt 15 = .ok (.iconst 0, 1) := by decide +kernel
theorem dL_operationAt_16 : decode cL_operationAt 16 = .ok (.ireturn, 1) := by decide +kernel
theorem dL_entityOf_0 : decode cL_entityOf 0 = .ok (.aload_n 2, 1) := by decide +kernel
theorem dL_entityOf_1 : decode cL_entityOf 1 = .ok (.iconst 0, 1) := by decide +kernel
theorem dL_entityOf_2 : decode cL_entityOf 2 = .ok (.aload_n 0, 1) := by decide +kernel
theorem dL_entityOf_3 : decode cL_entityOf 3 = .ok (.iload_n 1, 1) := by decide +kernel
theorem dL_entityOf_4 : decode cL_entityOf 4 = .ok (.invokevirtual 36, 3) := by decide +kernel
theorem dL_entityOf_7 : decode cL_entityOf 7 = .ok (.i2l, 1) := by decide +kernel
theorem dL_entityOf_8 : decode cL_entityOf 8 = .ok (.lastore, 1) := by decide +kernel
theorem dL_entityOf_9 : decode cL_entityOf 9 = .ok (.goto 6, 3) := by decide +kernel
theorem dL_entityOf_12 : decode cL_entityOf 12 = .ok (.astore_n 3, 1) := by decide +kernel
theorem dL_entityOf_13 : decode cL_entityOf 13 = .ok (.iconst 1, 1) := by decide +kernel
theorem dL_entityOf_14 : decode cL_entityOf 14 = .ok (.ireturn, 1) := by decide +kernel
theorem dL_entityOf_15 : decode cL_entityOf 15 = .ok (.iconst 0, 1) := by decide +kernel
theorem dL_entityOf_16 : decode cL_entityOf 16 = .ok (.ireturn, 1) := by decide +kernel
theorem dL_factValue_0 : decode cL_factValue 0 = .ok (.aload_n 2, 1) := by decide +kernel
theorem dL_factValue_1 : decode cL_factValue 1 = .ok (.iconst 0, 1) := by decide +kernel
theorem dL_factValue_2 : decode cL_factValue 2 = .ok (.aload_n 0, 1) := by decide +kernel
theorem dL_factValue_3 : decode cL_factValue 3 = .ok (.iload_n 1, 1) := by decide +kernel
theorem dL_factValue_4 : decode cL_factValue 4 = .ok (.invokevirtual 40, 3) := by decide +kernel
theorem dL_factValue_7 : decode cL_factValue 7 = .ok (.i2l, 1) := by decide +kernel
theorem dL_factValue_8 : decode cL_factValue 8 = .ok (.lastore, 1) := by decide +kernel
theorem dL_factValue_9 : decode cL_factValue 9 = .ok (.goto 6, 3) := by decide +kernel
theorem dL_factValue_12 : decode cL_factValue 12 = .ok (.astore_n 3, 1) := by decide +kernel
theorem dL_factValue_13 : decode cL_factValue 13 = .ok (.iconst 1, 1) := by decide +kernel
theorem dL_factValue_14 : decode cL_factValue 14 = .ok (.ireturn, 1) := by decide +kernel
theorem dL_factValue_15 : decode cL_factValue 15 = .ok (.iconst 0, 1) := by decide +kernel
theorem dL_factValue_16 : decode cL_factValue 16 = .ok (.ireturn, 1) := by decide +kernel
theorem dL_factFrom_0 : decode cL_factFrom 0 = .ok (.aload_n 2, 1) := by decide +kernel
theorem dL_factFrom_1 : decode cL_factFrom 1 = .ok (.iconst 0, 1) := by decide +kernel
theorem dL_factFrom_2 : decode cL_factFrom 2 = .ok (.aload_n 0, 1) := by decide +kernel
theorem dL_factFrom_3 : decode cL_factFrom 3 = .ok (.iload_n 1, 1) := by decide +kernel
theorem dL_factFrom_4 : decode cL_factFrom 4 = .ok (.invokevirtual 43, 3) := by decide +kernel
theorem dL_factFrom_7 : decode cL_factFrom 7 = .ok (.i2l, 1) := by decide +kernel
theorem dL_factFrom_8 : decode cL_factFrom 8 = .ok (.lastore, 1) := by decide +kernel
theorem dL_factFrom_9 : decode cL_factFrom 9 = .ok (.goto 6, 3) := by decide +kernel
theorem dL_factFrom_12 : decode cL_factFrom 12 = .ok (.astore_n 3, 1) := by decide +kernel
theorem dL_factFrom_13 : decode cL_factFrom 13 = .ok (.iconst 1, 1) := by decide +kernel
theorem dL_factFrom_14 : decode cL_factFrom 14 = .ok (.ireturn, 1) := by decide +kernel
theorem dL_factFrom_15 : decode cL_factFrom 15 = .ok (.iconst 0, 1) := by decide +kernel
theorem dL_factFrom_16 : decode cL_factFrom 16 = .ok (.ireturn, 1) := by decide +kernel
theorem dL_factTo_0 : decode cL_factTo 0 = .ok (.aload_n 2, 1) := by decide +kernel
theorem dL_factTo_1 : decode cL_factTo 1 = .ok (.iconst 0, 1) := by decide +kernel
theorem dL_factTo_2 : decode cL_factTo 2 = .ok (.aload_n 0, 1) := by decide +kernel
theorem dL_factTo_3 : decode cL_factTo 3 = .ok (.iload_n 1, 1) := by decide +kernel
theorem dL_factTo_4 : decode cL_factTo 4 = .ok (.invokevirtual 46, 3) := by decide +kernel
theorem dL_factTo_7 : decode cL_factTo 7 = .ok (.i2l, 1) := by decide +kernel
theorem dL_factTo_8 : decode cL_factTo 8 = .ok (.lastore, 1) := by decide +kernel
theorem dL_factTo_9 : decode cL_factTo 9 = .ok (.goto 6, 3) := by decide +kernel
theorem dL_factTo_12 : decode cL_factTo 12 = .ok (.astore_n 3, 1) := by decide +kernel
theorem dL_factTo_13 : decode cL_factTo 13 = .ok (.iconst 1, 1) := by decide +kernel
theorem dL_factTo_14 : decode cL_factTo 14 = .ok (.ireturn, 1) := by decide +kernel
theorem dL_factTo_15 : decode cL_factTo 15 = .ok (.iconst 0, 1) := by decide +kernel
theorem dL_factTo_16 : decode cL_factTo 16 = .ok (.ireturn, 1) := by decide +kernel
theorem dL_openedAt_0 : decode cL_openedAt 0 = .ok (.aload_n 2, 1) := by decide +kernel
theorem dL_openedAt_1 : decode cL_openedAt 1 = .ok (.iconst 0, 1) := by decide +kernel
theorem dL_openedAt_2 : decode cL_openedAt 2 = .ok (.aload_n 0, 1) := by decide +kernel
theorem dL_openedAt_3 : decode cL_openedAt 3 = .ok (.iload_n 1, 1) := by decide +kernel
theorem dL_openedAt_4 : decode cL_openedAt 4 = .ok (.invokevirtual 49, 3) := by decide +kernel
theorem dL_openedAt_7 : decode cL_openedAt 7 = .ok (.i2l, 1) := by decide +kernel
theorem dL_openedAt_8 : decode cL_openedAt 8 = .ok (.lastore, 1) := by decide +kernel
theorem dL_openedAt_9 : decode cL_openedAt 9 = .ok (.goto 6, 3) := by decide +kernel
theorem dL_openedAt_12 : decode cL_openedAt 12 = .ok (.astore_n 3, 1) := by decide +kernel
theorem dL_openedAt_13 : decode cL_openedAt 13 = .ok (.iconst 1, 1) := by decide +kernel
theorem dL_openedAt_14 : decode cL_openedAt 14 = .ok (.ireturn, 1) := by decide +kernel
theorem dL_openedAt_15 : decode cL_openedAt 15 = .ok (.iconst 0, 1) := by decide +kernel
theorem dL_openedAt_16 : decode cL_openedAt 16 = .ok (.ireturn, 1) := by decide +kernel
theorem dL_closedAt_0 : decode cL_closedAt 0 = .ok (.aload_n 2, 1) := by decide +kernel
theorem dL_closedAt_1 : decode cL_closedAt 1 = .ok (.iconst 0, 1) := by decide +kernel
theorem dL_closedAt_2 : decode cL_closedAt 2 = .ok (.aload_n 0, 1) := by decide +kernel
theorem dL_closedAt_3 : decode cL_closedAt 3 = .ok (.iload_n 1, 1) := by decide +kernel
theorem dL_closedAt_4 : decode cL_closedAt 4 = .ok (.invokevirtual 52, 3) := by decide +kernel
theorem dL_closedAt_7 : decode cL_closedAt 7 = .ok (.i2l, 1) := by decide +kernel
theorem dL_closedAt_8 : decode cL_closedAt 8 = .ok (.lastore, 1) := by decide +kernel
theorem dL_closedAt_9 : decode cL_closedAt 9 = .ok (.goto 6, 3) := by decide +kernel
theorem dL_closedAt_12 : decode cL_closedAt 12 = .ok (.astore_n 3, 1) := by decide +kernel
theorem dL_closedAt_13 : decode cL_closedAt 13 = .ok (.iconst 1, 1) := by decide +kernel
theorem dL_closedAt_14 : decode cL_closedAt 14 = .ok (.ireturn, 1) := by decide +kernel
theorem dL_closedAt_15 : decode cL_closedAt 15 = .ok (.iconst 0, 1) := by decide +kernel
theorem dL_closedAt_16 : decode cL_closedAt 16 = .ok (.ireturn, 1) := by decide +kernel
theorem dL_purge_0 : decode cL_purge 0 = .ok (.aload_n 2, 1) := by decide +kernel
theorem dL_purge_1 : decode cL_purge 1 = .ok (.iconst 0, 1) := by decide +kernel
theorem dL_purge_2 : decode cL_purge 2 = .ok (.aload_n 0, 1) := by decide +kernel
theorem dL_purge_3 : decode cL_purge 3 = .ok (.iload_n 1, 1) := by decide +kernel
theorem dL_purge_4 : decode cL_purge 4 = .ok (.invokevirtual 55, 3) := by decide +kernel
theorem dL_purge_7 : decode cL_purge 7 = .ok (.i2l, 1) := by decide +kernel
theorem dL_purge_8 : decode cL_purge 8 = .ok (.lastore, 1) := by decide +kernel
theorem dL_purge_9 : decode cL_purge 9 = .ok (.goto 6, 3) := by decide +kernel
theorem dL_purge_12 : decode cL_purge 12 = .ok (.astore_n 3, 1) := by decide +kernel
theorem dL_purge_13 : decode cL_purge 13 = .ok (.iconst 1, 1) := by decide +kernel
theorem dL_purge_14 : decode cL_purge 14 = .ok (.ireturn, 1) := by decide +kernel
theorem dL_purge_15 : decode cL_purge 15 = .ok (.iconst 0, 1) := by decide +kernel
theorem dL_purge_16 : decode cL_purge 16 = .ok (.ireturn, 1) := by decide +kernel
theorem dL_isKnown_0 : decode cL_isKnown 0 = .ok (.aload 5, 2) := by decide +kernel
theorem dL_isKnown_2 : decode cL_isKnown 2 = .ok (.iconst 0, 1) := by decide +kernel
theorem dL_isKnown_3 : decode cL_isKnown 3 = .ok (.aload_n 0, 1) := by decide +kernel
theorem dL_isKnown_4 : decode cL_isKnown 4 = .ok (.iload_n 1, 1) := by decide +kernel
theorem dL_isKnown_5 : decode cL_isKnown 5 = .ok (.iload_n 2, 1) := by decide +kernel
theorem dL_isKnown_6 : decode cL_isKnown 6 = .ok (.iload_n 3, 1) := by decide +kernel
theorem dL_isKnown_7 : decode cL_isKnown 7 = .ok (.iload 4, 2) := by decide +kernel
theorem dL_isKnown_9 : decode cL_isKnown 9 = .ok (.invokevirtual 58, 3) := by decide +kernel
theorem dL_isKnown_12 : decode cL_isKnown 12 = .ok (.ifCond .eq 7, 3) := by decide +kernel
theorem dL_isKnown_15 : decode cL_isKnown 15 = .ok (.lconst 1, 1) := by decide +kernel
theorem dL_isKnown_16 : decode cL_isKnown 16 = .ok (.goto 4, 3) := by decide +kernel
theorem dL_isKnown_19 : decode cL_isKnown 19 = .ok (.lconst 0, 1) := by decide +kernel
theorem dL_isKnown_20 : decode cL_isKnown 20 = .ok (.lastore, 1) := by decide +kernel
theorem dL_isKnown_21 : decode cL_isKnown 21 = .ok (.goto 15, 3) := by decide +kernel
theorem dL_isKnown_24 : decode cL_isKnown 24 = .ok (.astore 6, 2) := by decide +kernel
theorem dL_isKnown_26 : decode cL_isKnown 26 = .ok (.iconst 1, 1) := by decide +kernel
theorem dL_isKnown_27 : decode cL_isKnown 27 = .ok (.ireturn, 1) := by decide +kernel
theorem dL_isKnown_28 : decode cL_isKnown 28 = .ok (.astore 6, 2) := by decide +kernel
theorem dL_isKnown_30 : decode cL_isKnown 30 = .ok (.iconst 2, 1) := by decide +kernel
theorem dL_isKnown_31 : decode cL_isKnown 31 = .ok (.ireturn, 1) := by decide +kernel
theorem dL_isKnown_32 : decode cL_isKnown 32 = .ok (.astore 6, 2) := by decide +kernel
theorem dL_isKnown_34 : decode cL_isKnown 34 = .ok (.iconst 3, 1) := by decide +kernel
theorem dL_isKnown_35 : decode cL_isKnown 35 = .ok (.ireturn, 1) := by decide +kernel
theorem dL_isKnown_36 : decode cL_isKnown 36 = .ok (.iconst 0, 1) := by decide +kernel
theorem dL_isKnown_37 : decode cL_isKnown 37 = .ok (.ireturn, 1) := by decide +kernel
theorem dL_valueAt_0 : decode cL_valueAt 0 = .ok (.aload 5, 2) := by decide +kernel
theorem dL_valueAt_2 : decode cL_valueAt 2 = .ok (.iconst 0, 1) := by decide +kernel
theorem dL_valueAt_3 : decode cL_valueAt 3 = .ok (.aload_n 0, 1) := by decide +kernel
theorem dL_valueAt_4 : decode cL_valueAt 4 = .ok (.iload_n 1, 1) := by decide +kernel
theorem dL_valueAt_5 : decode cL_valueAt 5 = .ok (.iload_n 2, 1) := by decide +kernel
theorem dL_valueAt_6 : decode cL_valueAt 6 = .ok (.iload_n 3, 1) := by decide +kernel
theorem dL_valueAt_7 : decode cL_valueAt 7 = .ok (.iload 4, 2) := by decide +kernel
theorem dL_valueAt_9 : decode cL_valueAt 9 = .ok (.invokevirtual 64, 3) := by decide +kernel
theorem dL_valueAt_12 : decode cL_valueAt 12 = .ok (.i2l, 1) := by decide +kernel
theorem dL_valueAt_13 : decode cL_valueAt 13 = .ok (.lastore, 1) := by decide +kernel
theorem dL_valueAt_14 : decode cL_valueAt 14 = .ok (.goto 19, 3) := by decide +kernel
theorem dL_valueAt_17 : decode cL_valueAt 17 = .ok (.astore 6, 2) := by decide +kernel
theorem dL_valueAt_19 : decode cL_valueAt 19 = .ok (.iconst 1, 1) := by decide +kernel
theorem dL_valueAt_20 : decode cL_valueAt 20 = .ok (.ireturn, 1) := by decide +kernel
theorem dL_valueAt_21 : decode cL_valueAt 21 = .ok (.astore 6, 2) := by decide +kernel
theorem dL_valueAt_23 : decode cL_valueAt 23 = .ok (.iconst 2, 1) := by decide +kernel
theorem dL_valueAt_24 : decode cL_valueAt 24 = .ok (.ireturn, 1) := by decide +kernel
theorem dL_valueAt_25 : decode cL_valueAt 25 = .ok (.astore 6, 2) := by decide +kernel
theorem dL_valueAt_27 : decode cL_valueAt 27 = .ok (.iconst 3, 1) := by decide +kernel
theorem dL_valueAt_28 : decode cL_valueAt 28 = .ok (.ireturn, 1) := by decide +kernel
theorem dL_valueAt_29 : decode cL_valueAt 29 = .ok (.astore 6, 2) := by decide +kernel
theorem dL_valueAt_31 : decode cL_valueAt 31 = .ok (.iconst 4, 1) := by decide +kernel
theorem dL_valueAt_32 : decode cL_valueAt 32 = .ok (.ireturn, 1) := by decide +kernel
theorem dL_valueAt_33 : decode cL_valueAt 33 = .ok (.iconst 0, 1) := by decide +kernel
theorem dL_valueAt_34 : decode cL_valueAt 34 = .ok (.ireturn, 1) := by decide +kernel
theorem dL_valueByReplay_0 : decode cL_valueByReplay 0 = .ok (.aload 5, 2) := by decide +kernel
theorem dL_valueByReplay_2 : decode cL_valueByReplay 2 = .ok (.iconst 0, 1) := by decide +kernel
theorem dL_valueByReplay_3 : decode cL_valueByReplay 3 = .ok (.aload_n 0, 1) := by decide +kernel
theorem dL_valueByReplay_4 : decode cL_valueByReplay 4 = .ok (.iload_n 1, 1) := by decide +kernel
theorem dL_valueByReplay_5 : decode cL_valueByReplay 5 = .ok (.iload_n 2, 1) := by decide +kernel
theorem dL_valueByReplay_6 : decode cL_valueByReplay 6 = .ok (.iload_n 3, 1) := by decide +kernel
theorem dL_valueByReplay_7 : decode cL_valueByReplay 7 = .ok (.iload 4, 2) := by decide +kernel
theorem dL_valueByReplay_9 : decode cL_valueByReplay 9 = .ok (.invokevirtual 67, 3) := by decide +kernel
theorem dL_valueByReplay_12 : decode cL_valueByReplay 12 = .ok (.i2l, 1) := by decide +kernel
theorem dL_valueByReplay_13 : decode cL_valueByReplay 13 = .ok (.lastore, 1) := by decide +kernel
theorem dL_valueByReplay_14 : decode cL_valueByReplay 14 = .ok (.goto 19, 3) := by decide +kernel
theorem dL_valueByReplay_17 : decode cL_valueByReplay 17 = .ok (.astore 6, 2) := by decide +kernel
theorem dL_valueByReplay_19 : decode cL_valueByReplay 19 = .ok (.iconst 1, 1) := by decide +kernel
theorem dL_valueByReplay_20 : decode cL_valueByReplay 20 = .ok (.ireturn, 1) := by decide +kernel
theorem dL_valueByReplay_21 : decode cL_valueByReplay 21 = .ok (.astore 6, 2) := by decide +kernel
theorem dL_valueByReplay_23 : decode cL_valueByReplay 23 = .ok (.iconst 2, 1) := by decide +kernel
theorem dL_valueByReplay_24 : decode cL_valueByReplay 24 = .ok (.ireturn, 1) := by decide +kernel
theorem dL_valueByReplay_25 : decode cL_valueByReplay 25 = .ok (.astore 6, 2) := by decide +kernel
theorem dL_valueByReplay_27 : decode cL_valueByReplay 27 = .ok (.iconst 3, 1) := by decide +kernel
theorem dL_valueByReplay_28 : decode cL_valueByReplay 28 = .ok (.ireturn, 1) := by decide +kernel
theorem dL_valueByReplay_29 : decode cL_valueByReplay 29 = .ok (.astore 6, 2) := by decide +kernel
theorem dL_valueByReplay_31 : decode cL_valueByReplay 31 = .ok (.iconst 4, 1) := by decide +kernel
theorem dL_valueByReplay_32 : decode cL_valueByReplay 32 = .ok (.ireturn, 1) := by decide +kernel
theorem dL_valueByReplay_33 : decode cL_valueByReplay 33 = .ok (.iconst 0, 1) := by decide +kernel
theorem dL_valueByReplay_34 : decode cL_valueByReplay 34 = .ok (.ireturn, 1) := by decide +kernel
theorem dL_knownDays_0 : decode cL_knownDays 0 = .ok (.aload 4, 2) := by decide +kernel
theorem dL_knownDays_2 : decode cL_knownDays 2 = .ok (.iconst 0, 1) := by decide +kernel
theorem dL_knownDays_3 : decode cL_knownDays 3 = .ok (.aload_n 0, 1) := by decide +kernel
theorem dL_knownDays_4 : decode cL_knownDays 4 = .ok (.iload_n 1, 1) := by decide +kernel
theorem dL_knownDays_5 : decode cL_knownDays 5 = .ok (.iload_n 2, 1) := by decide +kernel
theorem dL_knownDays_6 : decode cL_knownDays 6 = .ok (.iload_n 3, 1) := by decide +kernel
theorem dL_knownDays_7 : decode cL_knownDays 7 = .ok (.invokevirtual 70, 3) := by decide +kernel
theorem dL_knownDays_10 : decode cL_knownDays 10 = .ok (.i2l, 1) := by decide +kernel
theorem dL_knownDays_11 : decode cL_knownDays 11 = .ok (.lastore, 1) := by decide +kernel
theorem dL_knownDays_12 : decode cL_knownDays 12 = .ok (.goto 15, 3) := by decide +kernel
theorem dL_knownDays_15 : decode cL_knownDays 15 = .ok (.astore 5, 2) := by decide +kernel
theorem dL_knownDays_17 : decode cL_knownDays 17 = .ok (.iconst 1, 1) := by decide +kernel
theorem dL_knownDays_18 : decode cL_knownDays 18 = .ok (.ireturn, 1) := by decide +kernel
theorem dL_knownDays_19 : decode cL_knownDays 19 = .ok (.astore 5, 2) := by decide +kernel
theorem dL_knownDays_21 : decode cL_knownDays 21 = .ok (.iconst 2, 1) := by decide +kernel
theorem dL_knownDays_22 : decode cL_knownDays 22 = .ok (.ireturn, 1) := by decide +kernel
theorem dL_knownDays_23 : decode cL_knownDays 23 = .ok (.astore 5, 2) := by decide +kernel
theorem dL_knownDays_25 : decode cL_knownDays 25 = .ok (.iconst 3, 1) := by decide +kernel
theorem dL_knownDays_26 : decode cL_knownDays 26 = .ok (.ireturn, 1) := by decide +kernel
theorem dL_knownDays_27 : decode cL_knownDays 27 = .ok (.iconst 0, 1) := by decide +kernel
theorem dL_knownDays_28 : decode cL_knownDays 28 = .ok (.ireturn, 1) := by decide +kernel
theorem dL_periodCount_0 : decode cL_periodCount 0 = .ok (.aload 4, 2) := by decide +kernel
theorem dL_periodCount_2 : decode cL_periodCount 2 = .ok (.iconst 0, 1) := by decide +kernel
theorem dL_periodCount_3 : decode cL_periodCount 3 = .ok (.aload_n 0, 1) := by decide +kernel
theorem dL_periodCount_4 : decode cL_periodCount 4 = .ok (.iload_n 1, 1) := by decide +kernel
theorem dL_periodCount_5 : decode cL_periodCount 5 = .ok (.iload_n 2, 1) := by decide +kernel
theorem dL_periodCount_6 : decode cL_periodCount 6 = .ok (.iload_n 3, 1) := by decide +kernel
theorem dL_periodCount_7 : decode cL_periodCount 7 = .ok (.invokevirtual 74, 3) := by decide +kernel
theorem dL_periodCount_10 : decode cL_periodCount 10 = .ok (.i2l, 1) := by decide +kernel
theorem dL_periodCount_11 : decode cL_periodCount 11 = .ok (.lastore, 1) := by decide +kernel
theorem dL_periodCount_12 : decode cL_periodCount 12 = .ok (.goto 15, 3) := by decide +kernel
theorem dL_periodCount_15 : decode cL_periodCount 15 = .ok (.astore 5, 2) := by decide +kernel
theorem dL_periodCount_17 : decode cL_periodCount 17 = .ok (.iconst 1, 1) := by decide +kernel
theorem dL_periodCount_18 : decode cL_periodCount 18 = .ok (.ireturn, 1) := by decide +kernel
theorem dL_periodCount_19 : decode cL_periodCount 19 = .ok (.astore 5, 2) := by decide +kernel
theorem dL_periodCount_21 : decode cL_periodCount 21 = .ok (.iconst 2, 1) := by decide +kernel
theorem dL_periodCount_22 : decode cL_periodCount 22 = .ok (.ireturn, 1) := by decide +kernel
theorem dL_periodCount_23 : decode cL_periodCount 23 = .ok (.astore 5, 2) := by decide +kernel
theorem dL_periodCount_25 : decode cL_periodCount 25 = .ok (.iconst 3, 1) := by decide +kernel
theorem dL_periodCount_26 : decode cL_periodCount 26 = .ok (.ireturn, 1) := by decide +kernel
theorem dL_periodCount_27 : decode cL_periodCount 27 = .ok (.iconst 0, 1) := by decide +kernel
theorem dL_periodCount_28 : decode cL_periodCount 28 = .ok (.ireturn, 1) := by decide +kernel
theorem dL_periodFrom_0 : decode cL_periodFrom 0 = .ok (.aload 5, 2) := by decide +kernel
theorem dL_periodFrom_2 : decode cL_periodFrom 2 = .ok (.iconst 0, 1) := by decide +kernel
theorem dL_periodFrom_3 : decode cL_periodFrom 3 = .ok (.aload_n 0, 1) := by decide +kernel
theorem dL_periodFrom_4 : decode cL_periodFrom 4 = .ok (.iload_n 1, 1) := by decide +kernel
theorem dL_periodFrom_5 : decode cL_periodFrom 5 = .ok (.iload_n 2, 1) := by decide +kernel
theorem dL_periodFrom_6 : decode cL_periodFrom 6 = .ok (.iload_n 3, 1) := by decide +kernel
theorem dL_periodFrom_7 : decode cL_periodFrom 7 = .ok (.iload 4, 2) := by decide +kernel
theorem dL_periodFrom_9 : decode cL_periodFrom 9 = .ok (.invokevirtual 77, 3) := by decide +kernel
theorem dL_periodFrom_12 : decode cL_periodFrom 12 = .ok (.i2l, 1) := by decide +kernel
theorem dL_periodFrom_13 : decode cL_periodFrom 13 = .ok (.lastore, 1) := by decide +kernel
theorem dL_periodFrom_14 : decode cL_periodFrom 14 = .ok (.goto 19, 3) := by decide +kernel
theorem dL_periodFrom_17 : decode cL_periodFrom 17 = .ok (.astore 6, 2) := by decide +kernel
theorem dL_periodFrom_19 : decode cL_periodFrom 19 = .ok (.iconst 1, 1) := by decide +kernel
theorem dL_periodFrom_20 : decode cL_periodFrom 20 = .ok (.ireturn, 1) := by decide +kernel
theorem dL_periodFrom_21 : decode cL_periodFrom 21 = .ok (.astore 6, 2) := by decide +kernel
theorem dL_periodFrom_23 : decode cL_periodFrom 23 = .ok (.iconst 2, 1) := by decide +kernel
theorem dL_periodFrom_24 : decode cL_periodFrom 24 = .ok (.ireturn, 1) := by decide +kernel
theorem dL_periodFrom_25 : decode cL_periodFrom 25 = .ok (.astore 6, 2) := by decide +kernel
theorem dL_periodFrom_27 : decode cL_periodFrom 27 = .ok (.iconst 3, 1) := by decide +kernel
theorem dL_periodFrom_28 : decode cL_periodFrom 28 = .ok (.ireturn, 1) := by decide +kernel
theorem dL_periodFrom_29 : decode cL_periodFrom 29 = .ok (.astore 6, 2) := by decide +kernel
theorem dL_periodFrom_31 : decode cL_periodFrom 31 = .ok (.iconst 4, 1) := by decide +kernel
theorem dL_periodFrom_32 : decode cL_periodFrom 32 = .ok (.ireturn, 1) := by decide +kernel
theorem dL_periodFrom_33 : decode cL_periodFrom 33 = .ok (.iconst 0, 1) := by decide +kernel
theorem dL_periodFrom_34 : decode cL_periodFrom 34 = .ok (.ireturn, 1) := by decide +kernel
theorem dL_periodTo_0 : decode cL_periodTo 0 = .ok (.aload 5, 2) := by decide +kernel
theorem dL_periodTo_2 : decode cL_periodTo 2 = .ok (.iconst 0, 1) := by decide +kernel
theorem dL_periodTo_3 : decode cL_periodTo 3 = .ok (.aload_n 0, 1) := by decide +kernel
theorem dL_periodTo_4 : decode cL_periodTo 4 = .ok (.iload_n 1, 1) := by decide +kernel
theorem dL_periodTo_5 : decode cL_periodTo 5 = .ok (.iload_n 2, 1) := by decide +kernel
theorem dL_periodTo_6 : decode cL_periodTo 6 = .ok (.iload_n 3, 1) := by decide +kernel
theorem dL_periodTo_7 : decode cL_periodTo 7 = .ok (.iload 4, 2) := by decide +kernel
theorem dL_periodTo_9 : decode cL_periodTo 9 = .ok (.invokevirtual 80, 3) := by decide +kernel
theorem dL_periodTo_12 : decode cL_periodTo 12 = .ok (.i2l, 1) := by decide +kernel
theorem dL_periodTo_13 : decode cL_periodTo 13 = .ok (.lastore, 1) := by decide +kernel
theorem dL_periodTo_14 : decode cL_periodTo 14 = .ok (.goto 19, 3) := by decide +kernel
theorem dL_periodTo_17 : decode cL_periodTo 17 = .ok (.astore 6, 2) := by decide +kernel
theorem dL_periodTo_19 : decode cL_periodTo 19 = .ok (.iconst 1, 1) := by decide +kernel
theorem dL_periodTo_20 : decode cL_periodTo 20 = .ok (.ireturn, 1) := by decide +kernel
theorem dL_periodTo_21 : decode cL_periodTo 21 = .ok (.astore 6, 2) := by decide +kernel
theorem dL_periodTo_23 : decode cL_periodTo 23 = .ok (.iconst 2, 1) := by decide +kernel
theorem dL_periodTo_24 : decode cL_periodTo 24 = .ok (.ireturn, 1) := by decide +kernel
theorem dL_periodTo_25 : decode cL_periodTo 25 = .ok (.astore 6, 2) := by decide +kernel
theorem dL_periodTo_27 : decode cL_periodTo 27 = .ok (.iconst 3, 1) := by decide +kernel
theorem dL_periodTo_28 : decode cL_periodTo 28 = .ok (.ireturn, 1) := by decide +kernel
theorem dL_periodTo_29 : decode cL_periodTo 29 = .ok (.astore 6, 2) := by decide +kernel
theorem dL_periodTo_31 : decode cL_periodTo 31 = .ok (.iconst 4, 1) := by decide +kernel
theorem dL_periodTo_32 : decode cL_periodTo 32 = .ok (.ireturn, 1) := by decide +kernel
theorem dL_periodTo_33 : decode cL_periodTo 33 = .ok (.iconst 0, 1) := by decide +kernel
theorem dL_periodTo_34 : decode cL_periodTo 34 = .ok (.ireturn, 1) := by decide +kernel
theorem dL_periodValue_0 : decode cL_periodValue 0 = .ok (.aload 5, 2) := by decide +kernel
theorem dL_periodValue_2 : decode cL_periodValue 2 = .ok (.iconst 0, 1) := by decide +kernel
theorem dL_periodValue_3 : decode cL_periodValue 3 = .ok (.aload_n 0, 1) := by decide +kernel
theorem dL_periodValue_4 : decode cL_periodValue 4 = .ok (.iload_n 1, 1) := by decide +kernel
theorem dL_periodValue_5 : decode cL_periodValue 5 = .ok (.iload_n 2, 1) := by decide +kernel
theorem dL_periodValue_6 : decode cL_periodValue 6 = .ok (.iload_n 3, 1) := by decide +kernel
theorem dL_periodValue_7 : decode cL_periodValue 7 = .ok (.iload 4, 2) := by decide +kernel
theorem dL_periodValue_9 : decode cL_periodValue 9 = .ok (.invokevirtual 83, 3) := by decide +kernel
theorem dL_periodValue_12 : decode cL_periodValue 12 = .ok (.i2l, 1) := by decide +kernel
theorem dL_periodValue_13 : decode cL_periodValue 13 = .ok (.lastore, 1) := by decide +kernel
theorem dL_periodValue_14 : decode cL_periodValue 14 = .ok (.goto 19, 3) := by decide +kernel
theorem dL_periodValue_17 : decode cL_periodValue 17 = .ok (.astore 6, 2) := by decide +kernel
theorem dL_periodValue_19 : decode cL_periodValue 19 = .ok (.iconst 1, 1) := by decide +kernel
theorem dL_periodValue_20 : decode cL_periodValue 20 = .ok (.ireturn, 1) := by decide +kernel
theorem dL_periodValue_21 : decode cL_periodValue 21 = .ok (.astore 6, 2) := by decide +kernel
theorem dL_periodValue_23 : decode cL_periodValue 23 = .ok (.iconst 2, 1) := by decide +kernel
theorem dL_periodValue_24 : decode cL_periodValue 24 = .ok (.ireturn, 1) := by decide +kernel
theorem dL_periodValue_25 : decode cL_periodValue 25 = .ok (.astore 6, 2) := by decide +kernel
theorem dL_periodValue_27 : decode cL_periodValue 27 = .ok (.iconst 3, 1) := by decide +kernel
theorem dL_periodValue_28 : decode cL_periodValue 28 = .ok (.ireturn, 1) := by decide +kernel
theorem dL_periodValue_29 : decode cL_periodValue 29 = .ok (.astore 6, 2) := by decide +kernel
theorem dL_periodValue_31 : decode cL_periodValue 31 = .ok (.iconst 4, 1) := by decide +kernel
theorem dL_periodValue_32 : decode cL_periodValue 32 = .ok (.ireturn, 1) := by decide +kernel
theorem dL_periodValue_33 : decode cL_periodValue 33 = .ok (.iconst 0, 1) := by decide +kernel
theorem dL_periodValue_34 : decode cL_periodValue 34 = .ok (.ireturn, 1) := by decide +kernel
theorem dL_integral_0 : decode cL_integral 0 = .ok (.aload 4, 2) := by decide +kernel
theorem dL_integral_2 : decode cL_integral 2 = .ok (.iconst 0, 1) := by decide +kernel
theorem dL_integral_3 : decode cL_integral 3 = .ok (.aload_n 0, 1) := by decide +kernel
theorem dL_integral_4 : decode cL_integral 4 = .ok (.iload_n 1, 1) := by decide +kernel
theorem dL_integral_5 : decode cL_integral 5 = .ok (.iload_n 2, 1) := by decide +kernel
theorem dL_integral_6 : decode cL_integral 6 = .ok (.iload_n 3, 1) := by decide +kernel
theorem dL_integral_7 : decode cL_integral 7 = .ok (.invokevirtual 86, 3) := by decide +kernel
theorem dL_integral_10 : decode cL_integral 10 = .ok (.lastore, 1) := by decide +kernel
theorem dL_integral_11 : decode cL_integral 11 = .ok (.goto 15, 3) := by decide +kernel
theorem dL_integral_14 : decode cL_integral 14 = .ok (.astore 5, 2) := by decide +kernel
theorem dL_integral_16 : decode cL_integral 16 = .ok (.iconst 1, 1) := by decide +kernel
theorem dL_integral_17 : decode cL_integral 17 = .ok (.ireturn, 1) := by decide +kernel
theorem dL_integral_18 : decode cL_integral 18 = .ok (.astore 5, 2) := by decide +kernel
theorem dL_integral_20 : decode cL_integral 20 = .ok (.iconst 2, 1) := by decide +kernel
theorem dL_integral_21 : decode cL_integral 21 = .ok (.ireturn, 1) := by decide +kernel
theorem dL_integral_22 : decode cL_integral 22 = .ok (.astore 5, 2) := by decide +kernel
theorem dL_integral_24 : decode cL_integral 24 = .ok (.iconst 3, 1) := by decide +kernel
theorem dL_integral_25 : decode cL_integral 25 = .ok (.ireturn, 1) := by decide +kernel
theorem dL_integral_26 : decode cL_integral 26 = .ok (.iconst 0, 1) := by decide +kernel
theorem dL_integral_27 : decode cL_integral 27 = .ok (.ireturn, 1) := by decide +kernel
theorem dL_changedDays_0 : decode cL_changedDays 0 = .ok (.aload 5, 2) := by decide +kernel
theorem dL_changedDays_2 : decode cL_changedDays 2 = .ok (.iconst 0, 1) := by decide +kernel
theorem dL_changedDays_3 : decode cL_changedDays 3 = .ok (.aload_n 0, 1) := by decide +kernel
theorem dL_changedDays_4 : decode cL_changedDays 4 = .ok (.iload_n 1, 1) := by decide +kernel
theorem dL_changedDays_5 : decode cL_changedDays 5 = .ok (.iload_n 2, 1) := by decide +kernel
theorem dL_changedDays_6 : decode cL_changedDays 6 = .ok (.iload_n 3, 1) := by decide +kernel
theorem dL_changedDays_7 : decode cL_changedDays 7 = .ok (.iload 4, 2) := by decide +kernel
theorem dL_changedDays_9 : decode cL_changedDays 9 = .ok (.invokevirtual 90, 3) := by decide +kernel
theorem dL_changedDays_12 : decode cL_changedDays 12 = .ok (.i2l, 1) := by decide +kernel
theorem dL_changedDays_13 : decode cL_changedDays 13 = .ok (.lastore, 1) := by decide +kernel
theorem dL_changedDays_14 : decode cL_changedDays 14 = .ok (.goto 15, 3) := by decide +kernel
theorem dL_changedDays_17 : decode cL_changedDays 17 = .ok (.astore 6, 2) := by decide +kernel
theorem dL_changedDays_19 : decode cL_changedDays 19 = .ok (.iconst 1, 1) := by decide +kernel
theorem dL_changedDays_20 : decode cL_changedDays 20 = .ok (.ireturn, 1) := by decide +kernel
theorem dL_changedDays_21 : decode cL_changedDays 21 = .ok (.astore 6, 2) := by decide +kernel
theorem dL_changedDays_23 : decode cL_changedDays 23 = .ok (.iconst 2, 1) := by decide +kernel
theorem dL_changedDays_24 : decode cL_changedDays 24 = .ok (.ireturn, 1) := by decide +kernel
theorem dL_changedDays_25 : decode cL_changedDays 25 = .ok (.astore 6, 2) := by decide +kernel
theorem dL_changedDays_27 : decode cL_changedDays 27 = .ok (.iconst 3, 1) := by decide +kernel
theorem dL_changedDays_28 : decode cL_changedDays 28 = .ok (.ireturn, 1) := by decide +kernel
theorem dL_changedDays_29 : decode cL_changedDays 29 = .ok (.iconst 0, 1) := by decide +kernel
theorem dL_changedDays_30 : decode cL_changedDays 30 = .ok (.ireturn, 1) := by decide +kernel
theorem dL_total_0 : decode cL_total 0 = .ok (.aload 4, 2) := by decide +kernel
theorem dL_total_2 : decode cL_total 2 = .ok (.iconst 0, 1) := by decide +kernel
theorem dL_total_3 : decode cL_total 3 = .ok (.aload_n 0, 1) := by decide +kernel
theorem dL_total_4 : decode cL_total 4 = .ok (.iload_n 1, 1) := by decide +kernel
theorem dL_total_5 : decode cL_total 5 = .ok (.iload_n 2, 1) := by decide +kernel
theorem dL_total_6 : decode cL_total 6 = .ok (.iload_n 3, 1) := by decide +kernel
theorem dL_total_7 : decode cL_total 7 = .ok (.invokevirtual 93, 3) := by decide +kernel
theorem dL_total_10 : decode cL_total 10 = .ok (.i2l, 1) := by decide +kernel
theorem dL_total_11 : decode cL_total 11 = .ok (.lastore, 1) := by decide +kernel
theorem dL_total_12 : decode cL_total 12 = .ok (.goto 19, 3) := by decide +kernel
theorem dL_total_15 : decode cL_total 15 = .ok (.astore 5, 2) := by decide +kernel
theorem dL_total_17 : decode cL_total 17 = .ok (.iconst 1, 1) := by decide +kernel
theorem dL_total_18 : decode cL_total 18 = .ok (.ireturn, 1) := by decide +kernel
theorem dL_total_19 : decode cL_total 19 = .ok (.astore 5, 2) := by decide +kernel
theorem dL_total_21 : decode cL_total 21 = .ok (.iconst 2, 1) := by decide +kernel
theorem dL_total_22 : decode cL_total 22 = .ok (.ireturn, 1) := by decide +kernel
theorem dL_total_23 : decode cL_total 23 = .ok (.astore 5, 2) := by decide +kernel
theorem dL_total_25 : decode cL_total 25 = .ok (.iconst 3, 1) := by decide +kernel
theorem dL_total_26 : decode cL_total 26 = .ok (.ireturn, 1) := by decide +kernel
theorem dL_total_27 : decode cL_total 27 = .ok (.astore 5, 2) := by decide +kernel
theorem dL_total_29 : decode cL_total 29 = .ok (.iconst 4, 1) := by decide +kernel
theorem dL_total_30 : decode cL_total 30 = .ok (.ireturn, 1) := by decide +kernel
theorem dL_total_31 : decode cL_total 31 = .ok (.iconst 0, 1) := by decide +kernel
theorem dL_total_32 : decode cL_total 32 = .ok (.ireturn, 1) := by decide +kernel
theorem dL_meanValue_0 : decode cL_meanValue 0 = .ok (.aload 4, 2) := by decide +kernel
theorem dL_meanValue_2 : decode cL_meanValue 2 = .ok (.iconst 0, 1) := by decide +kernel
theorem dL_meanValue_3 : decode cL_meanValue 3 = .ok (.aload_n 0, 1) := by decide +kernel
theorem dL_meanValue_4 : decode cL_meanValue 4 = .ok (.iload_n 1, 1) := by decide +kernel
theorem dL_meanValue_5 : decode cL_meanValue 5 = .ok (.iload_n 2, 1) := by decide +kernel
theorem dL_meanValue_6 : decode cL_meanValue 6 = .ok (.iload_n 3, 1) := by decide +kernel
theorem dL_meanValue_7 : decode cL_meanValue 7 = .ok (.invokevirtual 98, 3) := by decide +kernel
theorem dL_meanValue_10 : decode cL_meanValue 10 = .ok (.dastore, 1) := by decide +kernel
theorem dL_meanValue_11 : decode cL_meanValue 11 = .ok (.goto 19, 3) := by decide +kernel
theorem dL_meanValue_14 : decode cL_meanValue 14 = .ok (.astore 5, 2) := by decide +kernel
theorem dL_meanValue_16 : decode cL_meanValue 16 = .ok (.iconst 1, 1) := by decide +kernel
theorem dL_meanValue_17 : decode cL_meanValue 17 = .ok (.ireturn, 1) := by decide +kernel
theorem dL_meanValue_18 : decode cL_meanValue 18 = .ok (.astore 5, 2) := by decide +kernel
theorem dL_meanValue_20 : decode cL_meanValue 20 = .ok (.iconst 2, 1) := by decide +kernel
theorem dL_meanValue_21 : decode cL_meanValue 21 = .ok (.ireturn, 1) := by decide +kernel
theorem dL_meanValue_22 : decode cL_meanValue 22 = .ok (.astore 5, 2) := by decide +kernel
theorem dL_meanValue_24 : decode cL_meanValue 24 = .ok (.iconst 3, 1) := by decide +kernel
theorem dL_meanValue_25 : decode cL_meanValue 25 = .ok (.ireturn, 1) := by decide +kernel
theorem dL_meanValue_26 : decode cL_meanValue 26 = .ok (.astore 5, 2) := by decide +kernel
theorem dL_meanValue_28 : decode cL_meanValue 28 = .ok (.iconst 4, 1) := by decide +kernel
theorem dL_meanValue_29 : decode cL_meanValue 29 = .ok (.ireturn, 1) := by decide +kernel
theorem dL_meanValue_30 : decode cL_meanValue 30 = .ok (.iconst 0, 1) := by decide +kernel
theorem dL_meanValue_31 : decode cL_meanValue 31 = .ok (.ireturn, 1) := by decide +kernel
theorem dL_joinCount_0 : decode cL_joinCount 0 = .ok (.aload 6, 2) := by decide +kernel
theorem dL_joinCount_2 : decode cL_joinCount 2 = .ok (.iconst 0, 1) := by decide +kernel
theorem dL_joinCount_3 : decode cL_joinCount 3 = .ok (.aload_n 0, 1) := by decide +kernel
theorem dL_joinCount_4 : decode cL_joinCount 4 = .ok (.iload_n 1, 1) := by decide +kernel
theorem dL_joinCount_5 : decode cL_joinCount 5 = .ok (.iload_n 2, 1) := by decide +kernel
theorem dL_joinCount_6 : decode cL_joinCount 6 = .ok (.iload_n 3, 1) := by decide +kernel
theorem dL_joinCount_7 : decode cL_joinCount 7 = .ok (.iload 4, 2) := by decide +kernel
theorem dL_joinCount_9 : decode cL_joinCount 9 = .ok (.iload 5, 2) := by decide +kernel
theorem dL_joinCount_11 : decode cL_joinCount 11 = .ok (.invokevirtual 102, 3) := by decide +kernel
theorem dL_joinCount_14 : decode cL_joinCount 14 = .ok (.i2l, 1) := by decide +kernel
theorem dL_joinCount_15 : decode cL_joinCount 15 = .ok (.lastore, 1) := by decide +kernel
theorem dL_joinCount_16 : decode cL_joinCount 16 = .ok (.goto 15, 3) := by decide +kernel
theorem dL_joinCount_19 : decode cL_joinCount 19 = .ok (.astore 7, 2) := by decide +kernel
theorem dL_joinCount_21 : decode cL_joinCount 21 = .ok (.iconst 1, 1) := by decide +kernel
theorem dL_joinCount_22 : decode cL_joinCount 22 = .ok (.ireturn, 1) := by decide +kernel
theorem dL_joinCount_23 : decode cL_joinCount 23 = .ok (.astore 7, 2) := by decide +kernel
theorem dL_joinCount_25 : decode cL_joinCount 25 = .ok (.iconst 2, 1) := by decide +kernel
theorem dL_joinCount_26 : decode cL_joinCount 26 = .ok (.ireturn, 1) := by decide +kernel
theorem dL_joinCount_27 : decode cL_joinCount 27 = .ok (.astore 7, 2) := by decide +kernel
theorem dL_joinCount_29 : decode cL_joinCount 29 = .ok (.iconst 3, 1) := by decide +kernel
theorem dL_joinCount_30 : decode cL_joinCount 30 = .ok (.ireturn, 1) := by decide +kernel
theorem dL_joinCount_31 : decode cL_joinCount 31 = .ok (.iconst 0, 1) := by decide +kernel
theorem dL_joinCount_32 : decode cL_joinCount 32 = .ok (.ireturn, 1) := by decide +kernel
theorem dL_joinFrom_0 : decode cL_joinFrom 0 = .ok (.aload 7, 2) := by decide +kernel
theorem dL_joinFrom_2 : decode cL_joinFrom 2 = .ok (.iconst 0, 1) := by decide +kernel
theorem dL_joinFrom_3 : decode cL_joinFrom 3 = .ok (.aload_n 0, 1) := by decide +kernel
theorem dL_joinFrom_4 : decode cL_joinFrom 4 = .ok (.iload_n 1, 1) := by decide +kernel
theorem dL_joinFrom_5 : decode cL_joinFrom 5 = .ok (.iload_n 2, 1) := by decide +kernel
theorem dL_joinFrom_6 : decode cL_joinFrom 6 = .ok (.iload_n 3, 1) := by decide +kernel
theorem dL_joinFrom_7 : decode cL_joinFrom 7 = .ok (.iload 4, 2) := by decide +kernel
theorem dL_joinFrom_9 : decode cL_joinFrom 9 = .ok (.iload 5, 2) := by decide +kernel
theorem dL_joinFrom_11 : decode cL_joinFrom 11 = .ok (.iload 6, 2) := by decide +kernel
theorem dL_joinFrom_13 : decode cL_joinFrom 13 = .ok (.invokevirtual 105, 3) := by decide +kernel
theorem dL_joinFrom_16 : decode cL_joinFrom 16 = .ok (.i2l, 1) := by decide +kernel
theorem dL_joinFrom_17 : decode cL_joinFrom 17 = .ok (.lastore, 1) := by decide +kernel
theorem dL_joinFrom_18 : decode cL_joinFrom 18 = .ok (.goto 19, 3) := by decide +kernel
theorem dL_joinFrom_21 : decode cL_joinFrom 21 = .ok (.astore 8, 2) := by decide +kernel
theorem dL_joinFrom_23 : decode cL_joinFrom 23 = .ok (.iconst 1, 1) := by decide +kernel
theorem dL_joinFrom_24 : decode cL_joinFrom 24 = .ok (.ireturn, 1) := by decide +kernel
theorem dL_joinFrom_25 : decode cL_joinFrom 25 = .ok (.astore 8, 2) := by decide +kernel
theorem dL_joinFrom_27 : decode cL_joinFrom 27 = .ok (.iconst 2, 1) := by decide +kernel
theorem dL_joinFrom_28 : decode cL_joinFrom 28 = .ok (.ireturn, 1) := by decide +kernel
theorem dL_joinFrom_29 : decode cL_joinFrom 29 = .ok (.astore 8, 2) := by decide +kernel
theorem dL_joinFrom_31 : decode cL_joinFrom 31 = .ok (.iconst 3, 1) := by decide +kernel
theorem dL_joinFrom_32 : decode cL_joinFrom 32 = .ok (.ireturn, 1) := by decide +kernel
theorem dL_joinFrom_33 : decode cL_joinFrom 33 = .ok (.astore 8, 2) := by decide +kernel
theorem dL_joinFrom_35 : decode cL_joinFrom 35 = .ok (.iconst 4, 1) := by decide +kernel
theorem dL_joinFrom_36 : decode cL_joinFrom 36 = .ok (.ireturn, 1) := by decide +kernel
theorem dL_joinFrom_37 : decode cL_joinFrom 37 = .ok (.iconst 0, 1) := by decide +kernel
theorem dL_joinFrom_38 : decode cL_joinFrom 38 = .ok (.ireturn, 1) := by decide +kernel
theorem dL_joinTo_0 : decode cL_joinTo 0 = .ok (.aload 7, 2) := by decide +kernel
theorem dL_joinTo_2 : decode cL_joinTo 2 = .ok (.iconst 0, 1) := by decide +kernel
theorem dL_joinTo_3 : decode cL_joinTo 3 = .ok (.aload_n 0, 1) := by decide +kernel
theorem dL_joinTo_4 : decode cL_joinTo 4 = .ok (.iload_n 1, 1) := by decide +kernel
theorem dL_joinTo_5 : decode cL_joinTo 5 = .ok (.iload_n 2, 1) := by decide +kernel
theorem dL_joinTo_6 : decode cL_joinTo 6 = .ok (.iload_n 3, 1) := by decide +kernel
theorem dL_joinTo_7 : decode cL_joinTo 7 = .ok (.iload 4, 2) := by decide +kernel
theorem dL_joinTo_9 : decode cL_joinTo 9 = .ok (.iload 5, 2) := by decide +kernel
theorem dL_joinTo_11 : decode cL_joinTo 11 = .ok (.iload 6, 2) := by decide +kernel
theorem dL_joinTo_13 : decode cL_joinTo 13 = .ok (.invokevirtual 109, 3) := by decide +kernel
theorem dL_joinTo_16 : decode cL_joinTo 16 = .ok (.i2l, 1) := by decide +kernel
theorem dL_joinTo_17 : decode cL_joinTo 17 = .ok (.lastore, 1) := by decide +kernel
theorem dL_joinTo_18 : decode cL_joinTo 18 = .ok (.goto 19, 3) := by decide +kernel
theorem dL_joinTo_21 : decode cL_joinTo 21 = .ok (.astore 8, 2) := by decide +kernel
theorem dL_joinTo_23 : decode cL_joinTo 23 = .ok (.iconst 1, 1) := by decide +kernel
theorem dL_joinTo_24 : decode cL_joinTo 24 = .ok (.ireturn, 1) := by decide +kernel
theorem dL_joinTo_25 : decode cL_joinTo 25 = .ok (.astore 8, 2) := by decide +kernel
theorem dL_joinTo_27 : decode cL_joinTo 27 = .ok (.iconst 2, 1) := by decide +kernel
theorem dL_joinTo_28 : decode cL_joinTo 28 = .ok (.ireturn, 1) := by decide +kernel
theorem dL_joinTo_29 : decode cL_joinTo 29 = .ok (.astore 8, 2) := by decide +kernel
theorem dL_joinTo_31 : decode cL_joinTo 31 = .ok (.iconst 3, 1) := by decide +kernel
theorem dL_joinTo_32 : decode cL_joinTo 32 = .ok (.ireturn, 1) := by decide +kernel
theorem dL_joinTo_33 : decode cL_joinTo 33 = .ok (.astore 8, 2) := by decide +kernel
theorem dL_joinTo_35 : decode cL_joinTo 35 = .ok (.iconst 4, 1) := by decide +kernel
theorem dL_joinTo_36 : decode cL_joinTo 36 = .ok (.ireturn, 1) := by decide +kernel
theorem dL_joinTo_37 : decode cL_joinTo 37 = .ok (.iconst 0, 1) := by decide +kernel
theorem dL_joinTo_38 : decode cL_joinTo 38 = .ok (.ireturn, 1) := by decide +kernel
theorem dL_commonDays_0 : decode cL_commonDays 0 = .ok (.aload 6, 2) := by decide +kernel
theorem dL_commonDays_2 : decode cL_commonDays 2 = .ok (.iconst 0, 1) := by decide +kernel
theorem dL_commonDays_3 : decode cL_commonDays 3 = .ok (.aload_n 0, 1) := by decide +kernel
theorem dL_commonDays_4 : decode cL_commonDays 4 = .ok (.iload_n 1, 1) := by decide +kernel
theorem dL_commonDays_5 : decode cL_commonDays 5 = .ok (.iload_n 2, 1) := by decide +kernel
theorem dL_commonDays_6 : decode cL_commonDays 6 = .ok (.iload_n 3, 1) := by decide +kernel
theorem dL_commonDays_7 : decode cL_commonDays 7 = .ok (.iload 4, 2) := by decide +kernel
theorem dL_commonDays_9 : decode cL_commonDays 9 = .ok (.iload 5, 2) := by decide +kernel
theorem dL_commonDays_11 : decode cL_commonDays 11 = .ok (.invokevirtual 112, 3) := by decide +kernel
theorem dL_commonDays_14 : decode cL_commonDays 14 = .ok (.i2l, 1) := by decide +kernel
theorem dL_commonDays_15 : decode cL_commonDays 15 = .ok (.lastore, 1) := by decide +kernel
theorem dL_commonDays_16 : decode cL_commonDays 16 = .ok (.goto 15, 3) := by decide +kernel
theorem dL_commonDays_19 : decode cL_commonDays 19 = .ok (.astore 7, 2) := by decide +kernel
theorem dL_commonDays_21 : decode cL_commonDays 21 = .ok (.iconst 1, 1) := by decide +kernel
theorem dL_commonDays_22 : decode cL_commonDays 22 = .ok (.ireturn, 1) := by decide +kernel
theorem dL_commonDays_23 : decode cL_commonDays 23 = .ok (.astore 7, 2) := by decide +kernel
theorem dL_commonDays_25 : decode cL_commonDays 25 = .ok (.iconst 2, 1) := by decide +kernel
theorem dL_commonDays_26 : decode cL_commonDays 26 = .ok (.ireturn, 1) := by decide +kernel
theorem dL_commonDays_27 : decode cL_commonDays 27 = .ok (.astore 7, 2) := by decide +kernel
theorem dL_commonDays_29 : decode cL_commonDays 29 = .ok (.iconst 3, 1) := by decide +kernel
theorem dL_commonDays_30 : decode cL_commonDays 30 = .ok (.ireturn, 1) := by decide +kernel
theorem dL_commonDays_31 : decode cL_commonDays 31 = .ok (.iconst 0, 1) := by decide +kernel
theorem dL_commonDays_32 : decode cL_commonDays 32 = .ok (.ireturn, 1) := by decide +kernel
theorem dL_agreeDays_0 : decode cL_agreeDays 0 = .ok (.aload 6, 2) := by decide +kernel
theorem dL_agreeDays_2 : decode cL_agreeDays 2 = .ok (.iconst 0, 1) := by decide +kernel
theorem dL_agreeDays_3 : decode cL_agreeDays 3 = .ok (.aload_n 0, 1) := by decide +kernel
theorem dL_agreeDays_4 : decode cL_agreeDays 4 = .ok (.iload_n 1, 1) := by decide +kernel
theorem dL_agreeDays_5 : decode cL_agreeDays 5 = .ok (.iload_n 2, 1) := by decide +kernel
theorem dL_agreeDays_6 : decode cL_agreeDays 6 = .ok (.iload_n 3, 1) := by decide +kernel
theorem dL_agreeDays_7 : decode cL_agreeDays 7 = .ok (.iload 4, 2) := by decide +kernel
theorem dL_agreeDays_9 : decode cL_agreeDays 9 = .ok (.iload 5, 2) := by decide +kernel
theorem dL_agreeDays_11 : decode cL_agreeDays 11 = .ok (.invokevirtual 115, 3) := by decide +kernel
theorem dL_agreeDays_14 : decode cL_agreeDays 14 = .ok (.i2l, 1) := by decide +kernel
theorem dL_agreeDays_15 : decode cL_agreeDays 15 = .ok (.lastore, 1) := by decide +kernel
theorem dL_agreeDays_16 : decode cL_agreeDays 16 = .ok (.goto 15, 3) := by decide +kernel
theorem dL_agreeDays_19 : decode cL_agreeDays 19 = .ok (.astore 7, 2) := by decide +kernel
theorem dL_agreeDays_21 : decode cL_agreeDays 21 = .ok (.iconst 1, 1) := by decide +kernel
theorem dL_agreeDays_22 : decode cL_agreeDays 22 = .ok (.ireturn, 1) := by decide +kernel
theorem dL_agreeDays_23 : decode cL_agreeDays 23 = .ok (.astore 7, 2) := by decide +kernel
theorem dL_agreeDays_25 : decode cL_agreeDays 25 = .ok (.iconst 2, 1) := by decide +kernel
theorem dL_agreeDays_26 : decode cL_agreeDays 26 = .ok (.ireturn, 1) := by decide +kernel
theorem dL_agreeDays_27 : decode cL_agreeDays 27 = .ok (.astore 7, 2) := by decide +kernel
theorem dL_agreeDays_29 : decode cL_agreeDays 29 = .ok (.iconst 3, 1) := by decide +kernel
theorem dL_agreeDays_30 : decode cL_agreeDays 30 = .ok (.ireturn, 1) := by decide +kernel
theorem dL_agreeDays_31 : decode cL_agreeDays 31 = .ok (.iconst 0, 1) := by decide +kernel
theorem dL_agreeDays_32 : decode cL_agreeDays 32 = .ok (.ireturn, 1) := by decide +kernel
theorem dL_versionCount_0 : decode cL_versionCount 0 = .ok (.aload 4, 2) := by decide +kernel
theorem dL_versionCount_2 : decode cL_versionCount 2 = .ok (.iconst 0, 1) := by decide +kernel
theorem dL_versionCount_3 : decode cL_versionCount 3 = .ok (.aload_n 0, 1) := by decide +kernel
theorem dL_versionCount_4 : decode cL_versionCount 4 = .ok (.iload_n 1, 1) := by decide +kernel
theorem dL_versionCount_5 : decode cL_versionCount 5 = .ok (.iload_n 2, 1) := by decide +kernel
theorem dL_versionCount_6 : decode cL_versionCount 6 = .ok (.iload_n 3, 1) := by decide +kernel
theorem dL_versionCount_7 : decode cL_versionCount 7 = .ok (.invokevirtual 118, 3) := by decide +kernel
theorem dL_versionCount_10 : decode cL_versionCount 10 = .ok (.i2l, 1) := by decide +kernel
theorem dL_versionCount_11 : decode cL_versionCount 11 = .ok (.lastore, 1) := by decide +kernel
theorem dL_versionCount_12 : decode cL_versionCount 12 = .ok (.goto 11, 3) := by decide +kernel
theorem dL_versionCount_15 : decode cL_versionCount 15 = .ok (.astore 5, 2) := by decide +kernel
theorem dL_versionCount_17 : decode cL_versionCount 17 = .ok (.iconst 1, 1) := by decide +kernel
theorem dL_versionCount_18 : decode cL_versionCount 18 = .ok (.ireturn, 1) := by decide +kernel
theorem dL_versionCount_19 : decode cL_versionCount 19 = .ok (.astore 5, 2) := by decide +kernel
theorem dL_versionCount_21 : decode cL_versionCount 21 = .ok (.iconst 2, 1) := by decide +kernel
theorem dL_versionCount_22 : decode cL_versionCount 22 = .ok (.ireturn, 1) := by decide +kernel
theorem dL_versionCount_23 : decode cL_versionCount 23 = .ok (.iconst 0, 1) := by decide +kernel
theorem dL_versionCount_24 : decode cL_versionCount 24 = .ok (.ireturn, 1) := by decide +kernel
theorem dL_versionTick_0 : decode cL_versionTick 0 = .ok (.aload 5, 2) := by decide +kernel
theorem dL_versionTick_2 : decode cL_versionTick 2 = .ok (.iconst 0, 1) := by decide +kernel
theorem dL_versionTick_3 : decode cL_versionTick 3 = .ok (.aload_n 0, 1) := by decide +kernel
theorem dL_versionTick_4 : decode cL_versionTick 4 = .ok (.iload_n 1, 1) := by decide +kernel
theorem dL_versionTick_5 : decode cL_versionTick 5 = .ok (.iload_n 2, 1) := by decide +kernel
theorem dL_versionTick_6 : decode cL_versionTick 6 = .ok (.iload_n 3, 1) := by decide +kernel
theorem dL_versionTick_7 : decode cL_versionTick 7 = .ok (.iload 4, 2) := by decide +kernel
theorem dL_versionTick_9 : decode cL_versionTick 9 = .ok (.invokevirtual 121, 3) := by decide +kernel
theorem dL_versionTick_12 : decode cL_versionTick 12 = .ok (.i2l, 1) := by decide +kernel
theorem dL_versionTick_13 : decode cL_versionTick 13 = .ok (.lastore, 1) := by decide +kernel
theorem dL_versionTick_14 : decode cL_versionTick 14 = .ok (.goto 15, 3) := by decide +kernel
theorem dL_versionTick_17 : decode cL_versionTick 17 = .ok (.astore 6, 2) := by decide +kernel
theorem dL_versionTick_19 : decode cL_versionTick 19 = .ok (.iconst 1, 1) := by decide +kernel
theorem dL_versionTick_20 : decode cL_versionTick 20 = .ok (.ireturn, 1) := by decide +kernel
theorem dL_versionTick_21 : decode cL_versionTick 21 = .ok (.astore 6, 2) := by decide +kernel
theorem dL_versionTick_23 : decode cL_versionTick 23 = .ok (.iconst 2, 1) := by decide +kernel
theorem dL_versionTick_24 : decode cL_versionTick 24 = .ok (.ireturn, 1) := by decide +kernel
theorem dL_versionTick_25 : decode cL_versionTick 25 = .ok (.astore 6, 2) := by decide +kernel
theorem dL_versionTick_27 : decode cL_versionTick 27 = .ok (.iconst 3, 1) := by decide +kernel
theorem dL_versionTick_28 : decode cL_versionTick 28 = .ok (.ireturn, 1) := by decide +kernel
theorem dL_versionTick_29 : decode cL_versionTick 29 = .ok (.iconst 0, 1) := by decide +kernel
theorem dL_versionTick_30 : decode cL_versionTick 30 = .ok (.ireturn, 1) := by decide +kernel
theorem dL_isVersionKnown_0 : decode cL_isVersionKnown 0 = .ok (.aload 5, 2) := by decide +kernel
theorem dL_isVersionKnown_2 : decode cL_isVersionKnown 2 = .ok (.iconst 0, 1) := by decide +kernel
theorem dL_isVersionKnown_3 : decode cL_isVersionKnown 3 = .ok (.aload_n 0, 1) := by decide +kernel
theorem dL_isVersionKnown_4 : decode cL_isVersionKnown 4 = .ok (.iload_n 1, 1) := by decide +kernel
theorem dL_isVersionKnown_5 : decode cL_isVersionKnown 5 = .ok (.iload_n 2, 1) := by decide +kernel
theorem dL_isVersionKnown_6 : decode cL_isVersionKnown 6 = .ok (.iload_n 3, 1) := by decide +kernel
theorem dL_isVersionKnown_7 : decode cL_isVersionKnown 7 = .ok (.iload 4, 2) := by decide +kernel
theorem dL_isVersionKnown_9 : decode cL_isVersionKnown 9 = .ok (.invokevirtual 124, 3) := by decide +kernel
theorem dL_isVersionKnown_12 : decode cL_isVersionKnown 12 = .ok (.ifCond .eq 7, 3) := by decide +kernel
theorem dL_isVersionKnown_15 : decode cL_isVersionKnown 15 = .ok (.lconst 1, 1) := by decide +kernel
theorem dL_isVersionKnown_16 : decode cL_isVersionKnown 16 = .ok (.goto 4, 3) := by decide +kernel
theorem dL_isVersionKnown_19 : decode cL_isVersionKnown 19 = .ok (.lconst 0, 1) := by decide +kernel
theorem dL_isVersionKnown_20 : decode cL_isVersionKnown 20 = .ok (.lastore, 1) := by decide +kernel
theorem dL_isVersionKnown_21 : decode cL_isVersionKnown 21 = .ok (.goto 15, 3) := by decide +kernel
theorem dL_isVersionKnown_24 : decode cL_isVersionKnown 24 = .ok (.astore 6, 2) := by decide +kernel
theorem dL_isVersionKnown_26 : decode cL_isVersionKnown 26 = .ok (.iconst 1, 1) := by decide +kernel
theorem dL_isVersionKnown_27 : decode cL_isVersionKnown 27 = .ok (.ireturn, 1) := by decide +kernel
theorem dL_isVersionKnown_28 : decode cL_isVersionKnown 28 = .ok (.astore 6, 2) := by decide +kernel
theorem dL_isVersionKnown_30 : decode cL_isVersionKnown 30 = .ok (.iconst 2, 1) := by decide +kernel
theorem dL_isVersionKnown_31 : decode cL_isVersionKnown 31 = .ok (.ireturn, 1) := by decide +kernel
theorem dL_isVersionKnown_32 : decode cL_isVersionKnown 32 = .ok (.astore 6, 2) := by decide +kernel
theorem dL_isVersionKnown_34 : decode cL_isVersionKnown 34 = .ok (.iconst 3, 1) := by decide +kernel
theorem dL_isVersionKnown_35 : decode cL_isVersionKnown 35 = .ok (.ireturn, 1) := by decide +kernel
theorem dL_isVersionKnown_36 : decode cL_isVersionKnown 36 = .ok (.iconst 0, 1) := by decide +kernel
theorem dL_isVersionKnown_37 : decode cL_isVersionKnown 37 = .ok (.ireturn, 1) := by decide +kernel
theorem dL_versionValue_0 : decode cL_versionValue 0 = .ok (.aload 5, 2) := by decide +kernel
theorem dL_versionValue_2 : decode cL_versionValue 2 = .ok (.iconst 0, 1) := by decide +kernel
theorem dL_versionValue_3 : decode cL_versionValue 3 = .ok (.aload_n 0, 1) := by decide +kernel
theorem dL_versionValue_4 : decode cL_versionValue 4 = .ok (.iload_n 1, 1) := by decide +kernel
theorem dL_versionValue_5 : decode cL_versionValue 5 = .ok (.iload_n 2, 1) := by decide +kernel
theorem dL_versionValue_6 : decode cL_versionValue 6 = .ok (.iload_n 3, 1) := by decide +kernel
theorem dL_versionValue_7 : decode cL_versionValue 7 = .ok (.iload 4, 2) := by decide +kernel
theorem dL_versionValue_9 : decode cL_versionValue 9 = .ok (.invokevirtual 127, 3) := by decide +kernel
theorem dL_versionValue_12 : decode cL_versionValue 12 = .ok (.i2l, 1) := by decide +kernel
theorem dL_versionValue_13 : decode cL_versionValue 13 = .ok (.lastore, 1) := by decide +kernel
theorem dL_versionValue_14 : decode cL_versionValue 14 = .ok (.goto 15, 3) := by decide +kernel
theorem dL_versionValue_17 : decode cL_versionValue 17 = .ok (.astore 6, 2) := by decide +kernel
theorem dL_versionValue_19 : decode cL_versionValue 19 = .ok (.iconst 1, 1) := by decide +kernel
theorem dL_versionValue_20 : decode cL_versionValue 20 = .ok (.ireturn, 1) := by decide +kernel
theorem dL_versionValue_21 : decode cL_versionValue 21 = .ok (.astore 6, 2) := by decide +kernel
theorem dL_versionValue_23 : decode cL_versionValue 23 = .ok (.iconst 2, 1) := by decide +kernel
theorem dL_versionValue_24 : decode cL_versionValue 24 = .ok (.ireturn, 1) := by decide +kernel
theorem dL_versionValue_25 : decode cL_versionValue 25 = .ok (.astore 6, 2) := by decide +kernel
theorem dL_versionValue_27 : decode cL_versionValue 27 = .ok (.iconst 3, 1) := by decide +kernel
theorem dL_versionValue_28 : decode cL_versionValue 28 = .ok (.ireturn, 1) := by decide +kernel
theorem dL_versionValue_29 : decode cL_versionValue 29 = .ok (.iconst 0, 1) := by decide +kernel
theorem dL_versionValue_30 : decode cL_versionValue 30 = .ok (.ireturn, 1) := by decide +kernel
theorem dL_writePeriods_0 : decode cL_writePeriods 0 = .ok (.aload 4, 2) := by decide +kernel
theorem dL_writePeriods_2 : decode cL_writePeriods 2 = .ok (.iconst 0, 1) := by decide +kernel
theorem dL_writePeriods_3 : decode cL_writePeriods 3 = .ok (.aload_n 0, 1) := by decide +kernel
theorem dL_writePeriods_4 : decode cL_writePeriods 4 = .ok (.iload_n 1, 1) := by decide +kernel
theorem dL_writePeriods_5 : decode cL_writePeriods 5 = .ok (.iload_n 2, 1) := by decide +kernel
theorem dL_writePeriods_6 : decode cL_writePeriods 6 = .ok (.iload_n 3, 1) := by decide +kernel
theorem dL_writePeriods_7 : decode cL_writePeriods 7 = .ok (.invokevirtual 130, 3) := by decide +kernel
theorem dL_writePeriods_10 : decode cL_writePeriods 10 = .ok (.i2l, 1) := by decide +kernel
theorem dL_writePeriods_11 : decode cL_writePeriods 11 = .ok (.lastore, 1) := by decide +kernel
theorem dL_writePeriods_12 : decode cL_writePeriods 12 = .ok (.goto 15, 3) := by decide +kernel
theorem dL_writePeriods_15 : decode cL_writePeriods 15 = .ok (.astore 5, 2) := by decide +kernel
theorem dL_writePeriods_17 : decode cL_writePeriods 17 = .ok (.iconst 1, 1) := by decide +kernel
theorem dL_writePeriods_18 : decode cL_writePeriods 18 = .ok (.ireturn, 1) := by decide +kernel
theorem dL_writePeriods_19 : decode cL_writePeriods 19 = .ok (.astore 5, 2) := by decide +kernel
theorem dL_writePeriods_21 : decode cL_writePeriods 21 = .ok (.iconst 2, 1) := by decide +kernel
theorem dL_writePeriods_22 : decode cL_writePeriods 22 = .ok (.ireturn, 1) := by decide +kernel
theorem dL_writePeriods_23 : decode cL_writePeriods 23 = .ok (.astore 5, 2) := by decide +kernel
theorem dL_writePeriods_25 : decode cL_writePeriods 25 = .ok (.iconst 3, 1) := by decide +kernel
theorem dL_writePeriods_26 : decode cL_writePeriods 26 = .ok (.ireturn, 1) := by decide +kernel
theorem dL_writePeriods_27 : decode cL_writePeriods 27 = .ok (.iconst 0, 1) := by decide +kernel
theorem dL_writePeriods_28 : decode cL_writePeriods 28 = .ok (.ireturn, 1) := by decide +kernel
theorem dL_lineAt_0 : decode cL_lineAt 0 = .ok (.aload_n 2, 1) := by decide +kernel
theorem dL_lineAt_1 : decode cL_lineAt 1 = .ok (.iconst 0, 1) := by decide +kernel
theorem dL_lineAt_2 : decode cL_lineAt 2 = .ok (.aload_n 0, 1) := by decide +kernel
theorem dL_lineAt_3 : decode cL_lineAt 3 = .ok (.iload_n 1, 1) := by decide +kernel
theorem dL_lineAt_4 : decode cL_lineAt 4 = .ok (.invokevirtual 133, 3) := by decide +kernel
theorem dL_lineAt_7 : decode cL_lineAt 7 = .ok (.i2l, 1) := by decide +kernel
theorem dL_lineAt_8 : decode cL_lineAt 8 = .ok (.lastore, 1) := by decide +kernel
theorem dL_lineAt_9 : decode cL_lineAt 9 = .ok (.goto 6, 3) := by decide +kernel
theorem dL_lineAt_12 : decode cL_lineAt 12 = .ok (.astore_n 3, 1) := by decide +kernel
theorem dL_lineAt_13 : decode cL_lineAt 13 = .ok (.iconst 1, 1) := by decide +kernel
theorem dL_lineAt_14 : decode cL_lineAt 14 = .ok (.ireturn, 1) := by decide +kernel
theorem dL_lineAt_15 : decode cL_lineAt 15 = .ok (.iconst 0, 1) := by decide +kernel
theorem dL_lineAt_16 : decode cL_lineAt 16 = .ok (.ireturn, 1) := by decide +kernel
