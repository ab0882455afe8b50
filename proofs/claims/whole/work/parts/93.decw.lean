theorem dL_append_0 : decode cL_append 0 = .ok (.aload 6, 2) := by decide +kernel
theorem dL_append_2 : decode cL_append 2 = .ok (.iconst 0, 1) := by decide +kernel
theorem dL_append_3 : decode cL_append 3 = .ok (.aload_n 0, 1) := by decide +kernel
theorem dL_append_4 : decode cL_append 4 = .ok (.iload_n 1, 1) := by decide +kernel
theorem dL_append_5 : decode cL_append 5 = .ok (.iload_n 2, 1) := by decide +kernel
theorem dL_append_6 : decode cL_append 6 = .ok (.iload_n 3, 1) := by decide +kernel
theorem dL_append_7 : decode cL_append 7 = .ok (.iload 4, 2) := by decide +kernel
theorem dL_append_9 : decode cL_append 9 = .ok (.iload 5, 2) := by decide +kernel
theorem dL_append_11 : decode cL_append 11 = .ok (.invokevirtual 7, 3) := by decide +kernel
theorem dL_append_14 : decode cL_append 14 = .ok (.i2l, 1) := by decide +kernel
theorem dL_append_15 : decode cL_append 15 = .ok (.lastore, 1) := by decide +kernel
theorem dL_append_16 : decode cL_append 16 = .ok (.goto 7, 3) := by decide +kernel
theorem dL_append_19 : decode cL_append 19 = .ok (.astore 7, 2) := by decide +kernel
theorem dL_append_21 : decode cL_append 21 = .ok (.iconst 1, 1) := by decide +kernel
theorem dL_append_22 : decode cL_append 22 = .ok (.ireturn, 1) := by decide +kernel
theorem dL_append_23 : decode cL_append 23 = .ok (.iconst 0, 1) := by decide +kernel
theorem dL_append_24 : decode cL_append 24 = .ok (.ireturn, 1) := by decide +kernel
theorem dL_truncate_0 : decode cL_truncate 0 = .ok (.aload_n 2, 1) := by decide +kernel
theorem dL_truncate_1 : decode cL_truncate 1 = .ok (.iconst 0, 1) := by decide +kernel
theorem dL_truncate_2 : decode cL_truncate 2 = .ok (.aload_n 0, 1) := by decide +kernel
theorem dL_truncate_3 : decode cL_truncate 3 = .ok (.iload_n 1, 1) := by decide +kernel
theorem dL_truncate_4 : decode cL_truncate 4 = .ok (.invokevirtual 15, 3) := by decide +kernel
theorem dL_truncate_7 : decode cL_truncate 7 = .ok (.i2l, 1) := by decide +kernel
theorem dL_truncate_8 : decode cL_truncate 8 = .ok (.lastore, 1) := by decide +kernel
theorem dL_truncate_9 : decode cL_truncate 9 = .ok (.goto 6, 3) := by decide +kernel
theorem dL_truncate_12 : decode cL_truncate 12 = .ok (.astore_n 3, 1) := by decide +kernel
theorem dL_truncate_13 : decode cL_truncate 13 = .ok (.iconst 1, 1) := by decide +kernel
theorem dL_truncate_14 : decode cL_truncate 14 = .ok (.ireturn, 1) := by decide +kernel
theorem dL_truncate_15 : decode cL_truncate 15 = .ok (.iconst 0, 1) := by decide +kernel
theorem dL_truncate_16 : decode cL_truncate 16 = .ok (.ireturn, 1) := by decide +kernel
theorem dL_loadSetup_0 : decode cL_loadSetup 0 = .ok (.aload_n 1, 1) := by decide +kernel
theorem dL_loadSetup_1 : decode cL_loadSetup 1 = .ok (.iconst 0, 1) := by decide +kernel
theorem dL_loadSetup_2 : decode cL_loadSetup 2 = .ok (.aload_n 0, 1) := by decide +kernel
theorem dL_loadSetup_3 : decode cL_loadSetup 3 = .ok (.invokevirtual 21, 3) := by decide +kernel
theorem dL_loadSetup_6 : decode cL_loadSetup 6 = .ok (.i2l, 1) := by decide +kernel
theorem dL_loadSetup_7 : decode cL_loadSetup 7 = .ok (.lastore, 1) := by decide +kernel
theorem dL_loadSetup_8 : decode cL_loadSetup 8 = .ok (.goto 6, 3) := by decide +kernel
theorem dL_loadSetup_11 : decode cL_loadSetup 11 = .ok (.astore_n 2, 1) := by decide +kernel
theorem dL_loadSetup_12 : decode cL_loadSetup 12 = .ok (.iconst 1, 1) := by decide +kernel
theorem dL_loadSetup_13 : decode cL_loadSetup 13 = .ok (.ireturn, 1) := by decide +kernel
theorem dL_loadSetup_14 : decode cL_loadSetup 14 = .ok (.iconst 0, 1) := by decide +kernel
theorem dL_loadSetup_15 : decode cL_loadSetup 15 = .ok (.ireturn, 1) := by decide +kernel
theorem dL_runScript_0 : decode cL_runScript 0 = .ok (.aload_n 1, 1) := by decide +kernel
theorem dL_runScript_1 : decode cL_runScript 1 = .ok (.iconst 0, 1) := by decide +kernel
theorem dL_runScript_2 : decode cL_runScript 2 = .ok (.aload_n 0, 1) := by decide +kernel
theorem dL_runScript_3 : decode cL_runScript 3 = .ok (.invokevirtual 25, 3) := by decide +kernel
theorem dL_runScript_6 : decode cL_runScript 6 = .ok (.i2l, 1) := by decide +kernel
theorem dL_runScript_7 : decode cL_runScript 7 = .ok (.lastore, 1) := by decide +kernel
theorem dL_runScript_8 : decode cL_runScript 8 = .ok (.goto 6, 3) := by decide +kernel
theorem dL_runScript_11 : decode cL_runScript 11 = .ok (.astore_n 2, 1) := by decide +kernel
theorem dL_runScript_12 : decode cL_runScript 12 = .ok (.iconst 1, 1) := by decide +kernel
theorem dL_runScript_13 : decode cL_runScript 13 = .ok (.ireturn, 1) := by decide +kernel
theorem dL_runScript_14 : decode cL_runScript 14 = .ok (.iconst 0, 1) := by decide +kernel
theorem dL_runScript_15 : decode cL_runScript 15 = .ok (.ireturn, 1) := by decide +kernel
theorem dL_addKite_0 : decode cL_addKite 0 = .ok (.aload 7, 2) := by decide +kernel
theorem dL_addKite_2 : decode cL_addKite 2 = .ok (.iconst 0, 1) := by decide +kernel
theorem dL_addKite_3 : decode cL_addKite 3 = .ok (.aload_n 0, 1) := by decide +kernel
theorem dL_addKite_4 : decode cL_addKite 4 = .ok (.iload_n 1, 1) := by decide +kernel
theorem dL_addKite_5 : decode cL_addKite 5 = .ok (.iload_n 2, 1) := by decide +kernel
theorem dL_addKite_6 : decode cL_addKite 6 = .ok (.iload_n 3, 1) := by decide +kernel
theorem dL_addKite_7 : decode cL_addKite 7 = .ok (.iload 4, 2) := by decide +kernel
theorem dL_addKite_9 : decode cL_addKite 9 = .ok (.iload 5, 2) := by decide +kernel
theorem dL_addKite_11 : decode cL_addKite 11 = .ok (.iload 6, 2) := by decide +kernel
theorem dL_addKite_13 : decode cL_addKite 13 = .ok (.invokevirtual 28, 3) := by decide +kernel
theorem dL_addKite_16 : decode cL_addKite 16 = .ok (.i2l, 1) := by decide +kernel
theorem dL_addKite_17 : decode cL_addKite 17 = .ok (.lastore, 1) := by decide +kernel
theorem dL_addKite_18 : decode cL_addKite 18 = .ok (.goto 15, 3) := by decide +kernel
theorem dL_addKite_21 : decode cL_addKite 21 = .ok (.astore 8, 2) := by decide +kernel
theorem dL_addKite_23 : decode cL_addKite 23 = .ok (.iconst 1, 1) := by decide +kernel
theorem dL_addKite_24 : decode cL_addKite 24 = .ok (.ireturn, 1) := by decide +kernel
theorem dL_addKite_25 : decode cL_addKite 25 = .ok (.astore 8, 2) := by decide +kernel
theorem dL_addKite_27 : decode cL_addKite 27 = .ok (.iconst 2, 1) := by decide +kernel
theorem dL_addKite_28 : decode cL_addKite 28 = .ok (.ireturn, 1) := by decide +kernel
theorem dL_addKite_29 : decode cL_addKite 29 = .ok (.astore 8, 2) := by decide +kernel
theorem dL_addKite_31 : decode cL_addKite 31 = .ok (.iconst 3, 1) := by decide +kernel
theorem dL_addKite_32 : decode cL_addKite 32 = .ok (.ireturn, 1) := by decide +kernel
theorem dL_addKite_33 : decode cL_addKite 33 = .ok (.iconst 0, 1) := by decide +kernel
theorem dL_addKite_34 : decode cL_addKite 34 = .ok (.ireturn, 1) := by decide +kernel
theorem dL_launch_0 : decode cL_launch 0 = .ok (.aload_n 2, 1) := by decide +kernel
theorem dL_launch_1 : decode cL_launch 1 = .ok (.iconst 0, 1) := by decide +kernel
theorem dL_launch_2 : decode cL_launch 2 = .ok (.aload_n 0, 1) := by decide +kernel
theorem dL_launch_3 : decode cL_launch 3 = .ok (.iload_n 1, 1) := by decide +kernel
theorem dL_launch_4 : decode cL_launch 4 = .ok (.invokevirtual 34, 3) := by decide +kernel
theorem dL_launch_7 : decode cL_launch 7 = .ok (.i2l, 1) := by decide +kernel
theorem dL_launch_8 : decode cL_launch 8 = .ok (.lastore, 1) := by decide +kernel
theorem dL_launch_9 : decode cL_launch 9 = .ok (.goto 9, 3) := by decide +kernel
theorem dL_launch_12 : decode cL_launch 12 = .ok (.astore_n 3, 1) := by decide +kernel
theorem dL_launch_13 : decode cL_launch 13 = .ok (.iconst 1, 1) := by decide +kernel
theorem dL_launch_14 : decode cL_launch 14 = .ok (.ireturn, 1) := by decide +kernel
theorem dL_launch_15 : decode cL_launch 15 = .ok (.astore_n 3, 1) := by decide +kernel
theorem dL_launch_16 : decode cL_launch 16 = .ok (.iconst 2, 1) := by decide +kernel
theorem dL_launch_17 : decode cL_launch 17 = .ok (.ireturn, 1) := by decide +kernel
theorem dL_launch_18 : decode cL_launch 18 = .ok (.iconst 0, 1) := by decide +kernel
theorem dL_launch_19 : decode cL_launch 19 = .ok (.ireturn, 1) := by decide +kernel
theorem dL_land_0 : decode cL_land 0 = .ok (.aload_n 2, 1) := by decide +kernel
theorem dL_land_1 : decode cL_land 1 = .ok (.iconst 0, 1) := by decide +kernel
theorem dL_land_2 : decode cL_land 2 = .ok (.aload_n 0, 1) := by decide +kernel
theorem dL_land_3 : decode cL_land 3 = .ok (.iload_n 1, 1) := by decide +kernel
theorem dL_land_4 : decode cL_land 4 = .ok (.invokevirtual 37, 3) := by decide +kernel
theorem dL_land_7 : decode cL_land 7 = .ok (.i2l, 1) := by decide +kernel
theorem dL_land_8 : decode cL_land 8 = .ok (.lastore, 1) := by decide +kernel
theorem dL_land_9 : decode cL_land 9 = .ok (.goto 9, 3) := by decide +kernel
theorem dL_land_12 : decode cL_land 12 = .ok (.astore_n 3, 1) := by decide +kernel
theorem dL_land_13 : decode cL_land 13 = .ok (.iconst 1, 1) := by decide +kernel
theorem dL_land_14 : decode cL_land 14 = .ok (.ireturn, 1) := by decide +kernel
theorem dL_land_15 : decode cL_land 15 = .ok (.astore_n 3, 1) := by decide +kernel
theorem dL_land_16 : decode cL_land 16 = .ok (.iconst 2, 1) := by decide +kernel
theorem dL_land_17 : decode cL_land 17 = .ok (.ireturn, 1) := by decide +kernel
theorem dL_land_18 : decode cL_land 18 = .ok (.iconst 0, 1) := by decide +kernel
theorem dL_land_19 : decode cL_land 19 = .ok (.ireturn, 1) := by decide +kernel
theorem dL_passHours_0 : decode cL_passHours 0 = .ok (.aload_n 2, 1) := by decide +kernel
theorem dL_passHours_1 : decode cL_passHours 1 = .ok (.iconst 0, 1) := by decide +kernel
theorem dL_passHours_2 : decode cL_passHours 2 = .ok (.aload_n 0, 1) := by decide +kernel
theorem dL_passHours_3 : decode cL_passHours 3 = .ok (.iload_n 1, 1) := by decide +kernel
theorem dL_passHours_4 : decode cL_passHours 4 = .ok (.invokevirtual 40, 3) := by decide +kernel
theorem dL_passHours_7 : decode cL_passHours 7 = .ok (.i2l, 1) := by decide +kernel
theorem dL_passHours_8 : decode cL_passHours 8 = .ok (.lastore, 1) := by decide +kernel
theorem dL_passHours_9 : decode cL_passHours 9 = .ok (.goto 6, 3) := by decide +kernel
theorem dL_passHours_12 : decode cL_passHours 12 = .ok (.astore_n 3, 1) := by decide +kernel
theorem dL_passHours_13 : decode cL_passHours 13 = .ok (.iconst 1, 1) := by decide +kernel
theorem dL_passHours_14 : decode cL_passHours 14 = .ok (.ireturn, 1) := by decide +kernel
theorem dL_passHours_15 : decode cL_passHours 15 = .ok (.iconst 0, 1) := by decide +kernel
theorem dL_passHours_16 : decode cL_passHours 16 = .ok (.ireturn, 1) := by decide +kernel
theorem dL_permit_0 : decode cL_permit 0 = .ok (.aload 4, 2) := by decide +kernel
theorem dL_permit_2 : decode cL_permit 2 = .ok (.iconst 0, 1) := by decide +kernel
theorem dL_permit_3 : decode cL_permit 3 = .ok (.aload_n 0, 1) := by decide +kernel
theorem dL_permit_4 : decode cL_permit 4 = .ok (.iload_n 1, 1) := by decide +kernel
theorem dL_permit_5 : decode cL_permit 5 = .ok (.iload_n 2, 1) := by decide +kernel
theorem dL_permit_6 : decode cL_permit 6 = .ok (.iload_n 3, 1) := by decide +kernel
theorem dL_permit_7 : decode cL_permit 7 = .ok (.invokevirtual 43, 3) := by decide +kernel
theorem dL_permit_10 : decode cL_permit 10 = .ok (.i2l, 1) := by decide +kernel
theorem dL_permit_11 : decode cL_permit 11 = .ok (.lastore, 1) := by decide +kernel
theorem dL_permit_12 : decode cL_permit 12 = .ok (.goto 15, 3) := by decide +kernel
theorem dL_permit_15 : decode cL_permit 15 = .ok (.astore 5, 2) := by decide +kernel
theorem dL_permit_17 : decode cL_permit 17 = .ok (.iconst 1, 1) := by decide +kernel
theorem dL_permit_18 : decode cL_permit 18 = .ok (.ireturn, 1) := by decide +kernel
theorem dL_permit_19 : decode cL_permit 19 = .ok (.astore 5, 2) := by decide +kernel
theorem dL_permit_21 : decode cL_permit 21 = .ok (.iconst 2, 1) := by decide +kernel
theorem dL_permit_22 : decode cL_permit 22 = .ok (.ireturn, 1) := by decide +kernel
theorem dL_permit_23 : decode cL_permit 23 = .ok (.astore 5, 2) := by decide +kernel
theorem dL_permit_25 : decode cL_permit 25 = .ok (.iconst 3, 1) := by decide +kernel
theorem dL_permit_26 : decode cL_permit 26 = .ok (.ireturn, 1) := by decide +kernel
theorem dL_permit_27 : decode cL_permit 27 = .ok (.iconst 0, 1) := by decide +kernel
theorem dL_permit_28 : decode cL_permit 28 = .ok (.ireturn, 1) := by decide +kernel
theorem dL_cancelPermits_0 : decode cL_cancelPermits 0 = .ok (.aload_n 2, 1) := by decide +kernel
theorem dL_cancelPermits_1 : decode cL_cancelPermits 1 = .ok (.iconst 0, 1) := by decide +kernel
theorem dL_cancelPermits_2 : decode cL_cancelPermits 2 = .ok (.aload_n 0, 1) := by decide +kernel
theorem dL_cancelPermits_3 : decode cL_cancelPermits 3 = .ok (.iload_n 1, 1) := by decide +kernel
theorem dL_cancelPermits_4 : decode cL_cancelPermits 4 = .ok (.invokevirtual 47, 3) := by decide +kernel
theorem dL_cancelPermits_7 : decode cL_cancelPermits 7 = .ok (.i2l, 1) := by decide +kernel
theorem dL_cancelPermits_8 : decode cL_cancelPermits 8 = .ok (.lastore, 1) := by decide +kernel
theorem dL_cancelPermits_9 : decode cL_cancelPermits 9 = .ok (.goto 6, 3) := by decide +kernel
theorem dL_cancelPermits_12 : decode cL_cancelPermits 12 = .ok (.astore_n 3, 1) := by decide +kernel
theorem dL_cancelPermits_13 : decode cL_cancelPermits 13 = .ok (.iconst 1, 1) := by decide +kernel
theorem dL_cancelPermits_14 : decode cL_cancelPermits 14 = .ok (.ireturn, 1) := by decide +kernel
theorem dL_cancelPermits_15 : decode cL_cancelPermits 15 = .ok (.iconst 0, 1) := by decide +kernel
theorem dL_cancelPermits_16 : decode cL_cancelPermits 16 = .ok (.ireturn, 1) := by decide +kernel
theorem dL_tieKnots_0 : decode cL_tieKnots 0 = .ok (.aload_n 3, 1) := by decide +kernel
theorem dL_tieKnots_1 : decode cL_tieKnots 1 = .ok (.iconst 0, 1) := by decide +kernel
theorem dL_tieKnots_2 : decode cL_tieKnots 2 = .ok (.aload_n 0, 1) := by decide +kernel
theorem dL_tieKnots_3 : decode cL_tieKnots 3 = .ok (.iload_n 1, 1) := by decide +kernel
theorem dL_tieKnots_4 : decode cL_tieKnots 4 = .ok (.iload_n 2, 1) := by decide +kernel
theorem dL_tieKnots_5 : decode cL_tieKnots 5 = .ok (.invokevirtual 50, 3) := by decide +kernel
theorem dL_tieKnots_8 : decode cL_tieKnots 8 = .ok (.i2l, 1) := by decide +kernel
theorem dL_tieKnots_9 : decode cL_tieKnots 9 = .ok (.lastore, 1) := by decide +kernel
theorem dL_tieKnots_10 : decode cL_tieKnots 10 = .ok (.goto 15, 3) := by decide +kernel
theorem dL_tieKnots_13 : decode cL_tieKnots 13 = .ok (.astore 4, 2) := by decide +kernel
theorem dL_tieKnots_15 : decode cL_tieKnots 15 = .ok (.iconst 1, 1) := by decide +kernel
theorem dL_tieKnots_16 : decode cL_tieKnots 16 = .ok (.ireturn, 1) := by decide +kernel
theorem dL_tieKnots_17 : decode cL_tieKnots 17 = .ok (.astore 4, 2) := by decide +kernel
theorem dL_tieKnots_19 : decode cL_tieKnots 19 = .ok (.iconst 2, 1) := by decide +kernel
theorem dL_tieKnots_20 : decode cL_tieKnots 20 = .ok (.ireturn, 1) := by decide +kernel
theorem dL_tieKnots_21 : decode cL_tieKnots 21 = .ok (.astore 4, 2) := by decide +kernel
theorem dL_tieKnots_23 : decode cL_tieKnots 23 = .ok (.iconst 3, 1) := by decide +kernel
theorem dL_tieKnots_24 : decode cL_tieKnots 24 = .ok (.ireturn, 1) := by decide +kernel
theorem dL_tieKnots_25 : decode cL_tieKnots 25 = .ok (.iconst 0, 1) := by decide +kernel
theorem dL_tieKnots_26 : decode cL_tieKnots 26 = .ok (.ireturn, 1) := by decide +kernel
theorem dL_repair_0 : decode cL_repair 0 = .ok (.aload_n 2, 1) := by decide +kernel
theorem dL_repair_1 : decode cL_repair 1 = .ok (.iconst 0, 1) := by decide +kernel
theorem dL_repair_2 : decode cL_repair 2 = .ok (.aload_n 0, 1) := by decide +kernel
theorem dL_repair_3 : decode cL_repair 3 = .ok (.iload_n 1, 1) := by decide +kernel
theorem dL_repair_4 : decode cL_repair 4 = .ok (.invokevirtual 54, 3) := by decide +kernel
theorem dL_repair_7 : decode cL_repair 7 = .ok (.i2l, 1) := by decide +kernel
theorem dL_repair_8 : decode cL_repair 8 = .ok (.lastore, 1) := by decide +kernel
theorem dL_repair_9 : decode cL_repair 9 = .ok (.goto 9, 3) := by decide +kernel
theorem dL_repair_12 : decode cL_repair 12 = .ok (.astore_n 3, 1) := by decide +kernel
theorem dL_repair_13 : decode cL_repair 13 = .ok (.iconst 1, 1) := by decide +kernel
theorem dL_repair_14 : decode cL_repair 14 = .ok (.ireturn, 1) := by decide +kernel
theorem dL_repair_15 : decode cL_repair 15 = .ok (.astore_n 3, 1) := by decide +kernel
theorem dL_repair_16 : decode cL_repair 16 = .ok (.iconst 2, 1) := by decide +kernel
theorem dL_repair_17 : decode cL_repair 17 = .ok (.ireturn, 1) := by decide +kernel
theorem dL_repair_18 : decode cL_repair 18 = .ok (.iconst 0, 1) := by decide +kernel
theorem dL_repair_19 : decode cL_repair 19 = .ok (.ireturn, 1) := by decide +kernel
theorem dL_fund_0 : decode cL_fund 0 = .ok (.aload_n 3, 1) := by decide +kernel
theorem dL_fund_1 : decode cL_fund 1 = .ok (.iconst 0, 1) := by decide +kernel
theorem dL_fund_2 : decode cL_fund 2 = .ok (.aload_n 0, 1) := by decide +kernel
theorem dL_fund_3 : decode cL_fund 3 = .ok (.iload_n 1, 1) := by decide +kernel
theorem dL_fund_4 : decode cL_fund 4 = .ok (.iload_n 2, 1) := by decide +kernel
theorem dL_fund_5 : decode cL_fund 5 = .ok (.invokevirtual 57, 3) := by decide +kernel
theorem dL_fund_8 : decode cL_fund 8 = .ok (.i2l, 1) := by decide +kernel
theorem dL_fund_9 : decode cL_fund 9 = .ok (.lastore, 1) := by decide +kernel
theorem dL_fund_10 : decode cL_fund 10 = .ok (.goto 11, 3) := by decide +kernel
theorem dL_fund_13 : decode cL_fund 13 = .ok (.astore 4, 2) := by decide +kernel
theorem dL_fund_15 : decode cL_fund 15 = .ok (.iconst 1, 1) := by decide +kernel
theorem dL_fund_16 : decode cL_fund 16 = .ok (.ireturn, 1) := by decide +kernel
theorem dL_fund_17 : decode cL_fund 17 = .ok (.astore 4, 2) := by decide +kernel
theorem dL_fund_19 : decode cL_fund 19 = .ok (.iconst 2, 1) := by decide +kernel
theorem dL_fund_20 : decode cL_fund 20 = .ok (.ireturn, 1) := by decide +kernel
theorem dL_fund_21 : decode cL_fund 21 = .ok (.iconst 0, 1) := by decide +kernel
theorem dL_fund_22 : decode cL_fund 22 = .ok (.ireturn, 1) := by decide +kernel
theorem dL_undo_0 : decode cL_undo 0 = .ok (.aload_n 1, 1) := by decide +kernel
theorem dL_undo_1 : decode cL_undo 1 = .ok (.iconst 0, 1) := by decide +kernel
theorem dL_undo_2 : decode cL_undo 2 = .ok (.aload_n 0, 1) := by decide +kernel
theorem dL_undo_3 : decode cL_undo 3 = .ok (.invokevirtual 60, 3) := by decide +kernel
theorem dL_undo_6 : decode cL_undo 6 = .ok (.i2l, 1) := by decide +kernel
theorem dL_undo_7 : decode cL_undo 7 = .ok (.lastore, 1) := by decide +kernel
theorem dL_undo_8 : decode cL_undo 8 = .ok (.goto 6, 3) := by decide +kernel
theorem dL_undo_11 : decode cL_undo 11 = .ok (.astore_n 2, 1) := by decide +kernel
theorem dL_undo_12 : decode cL_undo 12 = .ok (.iconst 1, 1) := by decide +kernel
theorem dL_undo_13 : decode cL_undo 13 = .ok (.ireturn, 1) := by decide +kernel
theorem dL_undo_14 : decode cL_undo 14 = .ok (.iconst 0, 1) := by decide +kernel
theorem dL_undo_15 : decode cL_undo 15 = .ok (.ireturn, 1) := by decide +kernel
theorem dL_saveSnapshot_0 : decode cL_saveSnapshot 0 = .ok (.aload_n 0, 1) := by decide +kernel
theorem dL_saveSnapshot_1 : decode cL_saveSnapshot 1 = .ok (.iload_n 1, 1) := by decide +kernel
theorem dL_saveSnapshot_2 : decode cL_saveSnapshot 2 = .ok (.invokevirtual 65, 3) := by decide +kernel
theorem dL_saveSnapshot_5 : decode cL_saveSnapshot 5 = .ok (.goto 6, 3) := by decide +kernel
theorem dL_saveSnapshot_8 : decode cL_saveSnapshot 8 = .ok (.astore_n 2, 1) := by decide +kernel
theorem dL_saveSnapshot_9 : decode cL_saveSnapshot 9 = .ok (.iconst 1, 1) := by decide +kernel
theorem dL_saveSnapshot_10 : decode cL_saveSnapshot 10 = .ok (.ireturn, 1) := by decide +kernel
theorem dL_saveSnapshot_11 : decode cL_saveSnapshot 11 = .ok (.iconst 0, 1) := by decide +kernel
theorem dL_saveSnapshot_12 : decode cL_saveSnapshot 12 = .ok (.ireturn, 1) := by decide +kernel
theorem dL_restoreSnapshot_0 : decode cL_restoreSnapshot 0 = .ok (.aload_n 2, 1) := by decide +kernel
theorem dL_restoreSnapshot_1 : decode cL_restoreSnapshot 1 = .ok (.iconst 0, 1) := by decide +kernel
theorem dL_restoreSnapshot_2 : decode cL_restoreSnapshot 2 = .ok (.aload_n 0, 1) := by decide +kernel
theorem dL_restoreSnapshot_3 : decode cL_restoreSnapshot 3 = .ok (.iload_n 1, 1) := by decide +kernel
theorem dL_restoreSnapshot_4 : decode cL_restoreSnapshot 4 = .ok (.invokevirtual 69, 3) := by decide +kernel
theorem dL_restoreSnapshot_7 : decode cL_restoreSnapshot 7 = .ok (.i2l, 1) := by decide +kernel
theorem dL_restoreSnapshot_8 : decode cL_restoreSnapshot 8 = .ok (.lastore, 1) := by decide +kernel
theorem dL_restoreSnapshot_9 : decode cL_restoreSnapshot 9 = .ok (.goto 9, 3) := by decide +kernel
theorem dL_restoreSnapshot_12 : decode cL_restoreSnapshot 12 = .ok (.astore_n 3, 1) := by decide +kernel
theorem dL_restoreSnapshot_13 : decode cL_restoreSnapshot 13 = .ok (.iconst 1, 1) := by decide +kernel
theorem dL_restoreSnapshot_14 : decode cL_restoreSnapshot 14 = .ok (.ireturn, 1) := by decide +kernel
theorem dL_restoreSnapshot_15 : decode cL_restoreSnapshot 15 = .ok (.astore_n 3, 1) := by decide +kernel
theorem dL_restoreSnapshot_16 : decode cL_restoreSnapshot 16 = .ok (.iconst 2, 1) := by decide +kernel
theorem dL_restoreSnapshot_17 : decode cL_restoreSnapshot 17 = .ok (.ireturn, 1) := by decide +kernel
theorem dL_restoreSnapshot_18 : decode cL_restoreSnapshot 18 = .ok (.iconst 0, 1) := by decide +kernel
theorem dL_restoreSnapshot_19 : decode cL_restoreSnapshot 19 = .ok (.ireturn, 1) := by decide +kernel
theorem dL_windDirection_0 : decode cL_windDirection 0 = .ok (.aload_n 3, 1) := by decide +kernel
theorem dL_windDirection_1 : decode cL_windDirection 1 = .ok (.iconst 0, 1) := by decide +kernel
theorem dL_windDirection_2 : decode cL_windDirection 2 = .ok (.aload_n 0, 1) := by decide +kernel
theorem dL_windDirection_3 : decode cL_windDirection 3 = .ok (.iload_n 1, 1) := by decide +kernel
theorem dL_windDirection_4 : decode cL_windDirection 4 = .ok (.iload_n 2, 1) := by decide +kernel
theorem dL_windDirection_5 : decode cL_windDirection 5 = .ok (.invokevirtual 72, 3) := by decide +kernel
theorem dL_windDirection_8 : decode cL_windDirection 8 = .ok (.i2l, 1) := by decide +kernel
theorem dL_windDirection_9 : decode cL_windDirection 9 = .ok (.lastore, 1) := by decide +kernel
theorem dL_windDirection_10 : decode cL_windDirection 10 = .ok (.goto 11, 3) := by decide +kernel
theorem dL_windDirection_13 : decode cL_windDirection 13 = .ok (.astore 4, 2) := by decide +kernel
theorem dL_windDirection_15 : decode cL_windDirection 15 = .ok (.iconst 1, 1) := by decide +kernel
theorem dL_windDirection_16 : decode cL_windDirection 16 = .ok (.ireturn, 1) := by decide +kernel
theorem dL_windDirection_17 : decode cL_windDirection 17 = .ok (.astore 4, 2) := by decide +kernel
theorem dL_windDirection_19 : decode cL_windDirection 19 = .ok (.iconst 2, 1) := by decide +kernel
theorem dL_windDirection_20 : decode cL_windDirection 20 = .ok (.ireturn, 1) := by decide +kernel
theorem dL_windDirection_21 : decode cL_windDirection 21 = .ok (.iconst 0, 1) := by decide +kernel
theorem dL_windDirection_22 : decode cL_windDirection 22 = .ok (.ireturn, 1) := by decide +kernel
theorem dL_windForce_0 : decode cL_windForce 0 = .ok (.aload_n 3, 1) := by decide +kernel
theorem dL_windForce_1 : decode cL_windForce 1 = .ok (.iconst 0, 1) := by decide +kernel
theorem dL_windForce_2 : decode cL_windForce 2 = .ok (.aload_n 0, 1) := by decide +kernel
theorem dL_windForce_3 : decode cL_windForce 3 = .ok (.iload_n 1, 1) := by decide +kernel
theorem dL_windForce_4 : decode cL_windForce 4 = .ok (.iload_n 2, 1) := by decide +kernel
theorem dL_windForce_5 : decode cL_windForce 5 = .ok (.invokevirtual 75, 3) := by decide +kernel
theorem dL_windForce_8 : decode cL_windForce 8 = .ok (.i2l, 1) := by decide +kernel
theorem dL_windForce_9 : decode cL_windForce 9 = .ok (.lastore, 1) := by decide +kernel
theorem dL_windForce_10 : decode cL_windForce 10 = .ok (.goto 11, 3) := by decide +kernel
theorem dL_windForce_13 : decode cL_windForce 13 = .ok (.astore 4, 2) := by decide +kernel
theorem dL_windForce_15 : decode cL_windForce 15 = .ok (.iconst 1, 1) := by decide +kernel
theorem dL_windForce_16 : decode cL_windForce 16 = .ok (.ireturn, 1) := by decide +kernel
theorem dL_windForce_17 : decode cL_windForce 17 = .ok (.astore 4, 2) := by decide +kernel
theorem dL_windForce_19 : decode cL_windForce 19 = .ok (.iconst 2, 1) := by decide +kernel
theorem dL_windForce_20 : decode cL_windForce 20 = .ok (.ireturn, 1) := by decide +kernel
theorem dL_windForce_21 : decode cL_windForce 21 = .ok (.iconst 0, 1) := by decide +kernel
theorem dL_windForce_22 : decode cL_windForce 22 = .ok (.ireturn, 1) := by decide +kernel
theorem dL_quota_0 : decode cL_quota 0 = .ok (.aload_n 2, 1) := by decide +kernel
theorem dL_quota_1 : decode cL_quota 1 = .ok (.iconst 0, 1) := by decide +kernel
theorem dL_quota_2 : decode cL_quota 2 = .ok (.aload_n 0, 1) := by decide +kernel
theorem dL_quota_3 : decode cL_quota 3 = .ok (.iload_n 1, 1) := by decide +kernel
theorem dL_quota_4 : decode cL_quota 4 = .ok (.invokevirtual 78, 3) := by decide +kernel
theorem dL_quota_7 : decode cL_quota 7 = .ok (.i2l, 1) := by decide +kernel
theorem dL_quota_8 : decode cL_quota 8 = .ok (.lastore, 1) := by decide +kernel
theorem dL_quota_9 : decode cL_quota 9 = .ok (.goto 6, 3) := by decide +kernel
theorem dL_quota_12 : decode cL_quota 12 = .ok (.astore_n 3, 1) := by decide +kernel
theorem dL_quota_13 : decode cL_quota 13 = .ok (.iconst 1, 1) := by decide +kernel
theorem dL_quota_14 : decode cL_quota 14 = .ok (.ireturn, 1) := by decide +kernel
theorem dL_quota_15 : decode cL_quota 15 = .ok (.iconst 0, 1) := by decide +kernel
theorem dL_quota_16 : decode cL_quota 16 = .ok (.ireturn, 1) := by decide +kernel
theorem dL_quotaUsed_0 : decode cL_quotaUsed 0 = .ok (.aload_n 3, 1) := by decide +kernel
theorem dL_quotaUsed_1 : decode cL_quotaUsed 1 = .ok (.iconst 0, 1) := by decide +kernel
theorem dL_quotaUsed_2 : decode cL_quotaUsed 2 = .ok (.aload_n 0, 1) := by decide +kernel
theorem dL_quotaUsed_3 : decode cL_quotaUsed 3 = .ok (.iload_n 1, 1) := by decide +kernel
theorem dL_quotaUsed_4 : decode cL_quotaUsed 4 = .ok (.iload_n 2, 1) := by decide +kernel
theorem dL_quotaUsed_5 : decode cL_quotaUsed 5 = .ok (.invokevirtual 81, 3) := by decide +kernel
theorem dL_quotaUsed_8 : decode cL_quotaUsed 8 = .ok (.i2l, 1) := by decide +kernel
theorem dL_quotaUsed_9 : decode cL_quotaUsed 9 = .ok (.lastore, 1) := by decide +kernel
theorem dL_quotaUsed_10 : decode cL_quotaUsed 10 = .ok (.goto 11, 3) := by decide +kernel
theorem dL_quotaUsed_13 : decode cL_quotaUsed 13 = .ok (.astore 4, 2) := by decide +kernel
theorem dL_quotaUsed_15 : decode cL_quotaUsed 15 = .ok (.iconst 1, 1) := by decide +kernel
theorem dL_quotaUsed_16 : decode cL_quotaUsed 16 = .ok (.ireturn, 1) := by decide +kernel
theorem dL_quotaUsed_17 : decode cL_quotaUsed 17 = .ok (.astore 4, 2) := by decide +kernel
theorem dL_quotaUsed_19 : decode cL_quotaUsed 19 = .ok (.iconst 2, 1) := by decide +kernel
theorem dL_quotaUsed_20 : decode cL_quotaUsed 20 = .ok (.ireturn, 1) := by decide +kernel
theorem dL_quotaUsed_21 : decode cL_quotaUsed 21 = .ok (.iconst 0, 1) := by decide +kernel
theorem dL_quotaUsed_22 : decode cL_quotaUsed 22 = .ok (.ireturn, 1) := by decide +kernel
theorem dL_anchorX_0 : decode cL_anchorX 0 = .ok (.aload_n 2, 1) := by decide +kernel
theorem dL_anchorX_1 : decode cL_anchorX 1 = .ok (.iconst 0, 1) := by decide +kernel
theorem dL_anchorX_2 : decode cL_anchorX 2 = .ok (.aload_n 0, 1) := by decide +kernel
theorem dL_anchorX_3 : decode cL_anchorX 3 = .ok (.iload_n 1, 1) := by decide +kernel
theorem dL_anchorX_4 : decode cL_anchorX 4 = .ok (.invokevirtual 84, 3) := by decide +kernel
theorem dL_anchorX_7 : decode cL_anchorX 7 = .ok (.i2l, 1) := by decide +kernel
theorem dL_anchorX_8 : decode cL_anchorX 8 = .ok (.lastore, 1) := by decide +kernel
theorem dL_anchorX_9 : decode cL_anchorX 9 = .ok (.goto 6, 3) := by decide +kernel
theorem dL_anchorX_12 : decode cL_anchorX 12 = .ok (.astore_n 3, 1) := by decide +kernel
theorem dL_anchorX_13 : decode cL_anchorX 13 = .ok (.iconst 1, 1) := by decide +kernel
theorem dL_anchorX_14 : decode cL_anchorX 14 = .ok (.ireturn, 1) := by decide +kernel
theorem dL_anchorX_15 : decode cL_anchorX 15 = .ok (.iconst 0, 1) := by decide +kernel
theorem dL_anchorX_16 : decode cL_anchorX 16 = .ok (.ireturn, 1) := by decide +kernel
theorem dL_anchorY_0 : decode cL_anchorY 0 = .ok (.aload_n 2, 1) := by decide +kernel
theorem dL_anchorY_1 : decode cL_anchorY 1 = .ok (.iconst 0, 1) := by decide +kernel
theorem dL_anchorY_2 : decode cL_anchorY 2 = .ok (.aload_n 0, 1) := by decide +kernel
theorem dL_anchorY_3 : decode cL_anchorY 3 = .ok (.iload_n 1, 1) := by decide +kernel
theorem dL_anchorY_4 : decode cL_anchorY 4 = .ok (.invokevirtual 87, 3) := by decide +kernel
theorem dL_anchorY_7 : decode cL_anchorY 7 = .ok (.i2l, 1) := by decide +kernel
theorem dL_anchorY_8 : decode cL_anchorY 8 = .ok (.lastore, 1) := by decide +kernel
theorem dL_anchorY_9 : decode cL_anchorY 9 = .ok (.goto 6, 3) := by decide +kernel
theorem dL_anchorY_12 : decode cL_anchorY 12 = .ok (.astore_n 3, 1) := by decide +kernel
theorem dL_anchorY_13 : decode cL_anchorY 13 = .ok (.iconst 1, 1) := by decide +kernel
theorem dL_anchorY_14 : decode cL_anchorY 14 = .ok (.ireturn, 1) := by decide +kernel
theorem dL_anchorY_15 : decode cL_anchorY 15 = .ok (.iconst 0, 1) := by decide +kernel
theorem dL_anchorY_16 : decode cL_anchorY 16 = .ok (.ireturn, 1) := by decide +kernel
theorem dL_stringLength_0 : decode cL_stringLength 0 = .ok (.aload_n 2, 1) := by decide +kernel
theorem dL_stringLength_1 : decode cL_stringLength 1 = .ok (.iconst 0, 1) := by decide +kernel
theorem dL_stringLength_2 : decode cL_stringLength 2 = .ok (.aload_n 0, 1) := by decide +kernel
theorem dL_stringLength_3 : decode cL_stringLength 3 = .ok (.iload_n 1, 1) := by decide +kernel
theorem dL_stringLength_4 : decode cL_stringLength 4 = .ok (.invokevirtual 90, 3) := by decide +kernel
theorem dL_stringLength_7 : decode cL_stringLength 7 = .ok (.i2l, 1) := by decide +kernel
theorem dL_stringLength_8 : decode cL_stringLength 8 = .ok (.lastore, 1) := by decide +kernel
theorem dL_stringLength_9 : decode cL_stringLength 9 = .ok (.goto 6, 3) := by decide +kernel
theorem dL_stringLength_12 : decode cL_stringLength 12 = .ok (.astore_n 3, 1) := by decide +kernel
theorem dL_stringLength_13 : decode cL_stringLength 13 = .ok (.iconst 1, 1) := by decide +kernel
theorem dL_stringLength_14 : decode cL_stringLength 14 = .ok (.ireturn, 1) := by decide +kernel
theorem dL_stringLength_15 : decode cL_stringLength 15 = .ok (.iconst 0, 1) := by decide +kernel
theorem dL_stringLength_16 : decode cL_stringLength 16 = .ok (.ireturn, 1) := by decide +kernel
theorem dL_colourOf_0 : decode cL_colourOf 0 = .ok (.aload_n 2, 1) := by decide +kernel
theorem dL_colourOf_1 : decode cL_colourOf 1 = .ok (.iconst 0, 1) := by decide +kernel
theorem dL_colourOf_2 : decode cL_colourOf 2 = .ok (.aload_n 0, 1) := by decide +kernel
theorem dL_colourOf_3 : decode cL_colourOf 3 = .ok (.iload_n 1, 1) := by decide +kernel
theorem dL_colourOf_4 : decode cL_colourOf 4 = .ok (.invokevirtual 93, 3) := by decide +kernel
theorem dL_colourOf_7 : decode cL_colourOf 7 = .ok (.i2l, 1) := by decide +kernel
theorem dL_colourOf_8 : decode cL_colourOf 8 = .ok (.lastore, 1) := by decide +kernel
theorem dL_colourOf_9 : decode cL_colourOf 9 = .ok (.goto 6, 3) := by decide +kernel
theorem dL_colourOf_12 : decode cL_colourOf 12 = .ok (.astore_n 3, 1) := by decide +kernel
theorem dL_colourOf_13 : decode cL_colourOf 13 = .ok (.iconst 1, 1) := by decide +kernel
theorem dL_colourOf_14 : decode cL_colourOf 14 = .ok (.ireturn, 1) := by decide +kernel
theorem dL_colourOf_15 : decode cL_colourOf 15 = .ok (.iconst 0, 1) := by decide +kernel
theorem dL_colourOf_16 : decode cL_colourOf 16 = .ok (.ireturn, 1) := by decide +kernel
theorem dL_knots_0 : decode cL_knots 0 = .ok (.aload_n 2, 1) := by decide +kernel
theorem dL_knots_1 : decode cL_knots 1 = .ok (.iconst 0, 1) := by decide +kernel
theorem dL_knots_2 : decode cL_knots 2 = .ok (.aload_n 0, 1) := by decide +kernel
theorem dL_knots_3 : decode cL_knots 3 = .ok (.iload_n 1, 1) := by decide +kernel
theorem dL_knots_4 : decode cL_knots 4 = .ok (.invokevirtual 96, 3) := by decide +kernel
theorem dL_knots_7 : decode cL_knots 7 = .ok (.i2l, 1) := by decide +kernel
theorem dL_knots_8 : decode cL_knots 8 = .ok (.lastore, 1) := by decide +kernel
theorem dL_knots_9 : decode cL_knots 9 = .ok (.goto 6, 3) := by decide +kernel
theorem dL_knots_12 : decode cL_knots 12 = .ok (.astore_n 3, 1) := by decide +kernel
theorem dL_knots_13 : decode cL_knots 13 = .ok (.iconst 1, 1) := by decide +kernel
theorem dL_knots_14 : decode cL_knots 14 = .ok (.ireturn, 1) := by decide +kernel
theorem dL_knots_15 : decode cL_knots 15 = .ok (.iconst 0, 1) := by decide +kernel
theorem dL_knots_16 : decode cL_knots 16 = .ok (.ireturn, 1) := by decide +kernel
theorem dL_purse_0 : decode cL_purse 0 = .ok (.aload_n 2, 1) := by decide +kernel
theorem dL_purse_1 : decode cL_purse 1 = .ok (.iconst 0, 1) := by decide +kernel
theorem dL_purse_2 : decode cL_purse 2 = .ok (.aload_n 0, 1) := by decide +kernel
theorem dL_purse_3 : decode cL_purse 3 = .ok (.iload_n 1, 1) := by decide +kernel
theorem dL_purse_4 : decode cL_purse 4 = .ok (.invokevirtual 99, 3) := by decide +kernel
theorem dL_purse_7 : decode cL_purse 7 = .ok (.i2l, 1) := by decide +kernel
theorem dL_purse_8 : decode cL_purse 8 = .ok (.lastore, 1) := by decide +kernel
theorem dL_purse_9 : decode cL_purse 9 = .ok (.goto 6, 3) := by decide +kernel
theorem dL_purse_12 : decode cL_purse 12 = .ok (.astore_n 3, 1) := by decide +kernel
theorem dL_purse_13 : decode cL_purse 13 = .ok (.iconst 1, 1) := by decide +kernel
theorem dL_purse_14 : decode cL_purse 14 = .ok (.ireturn, 1) := by decide +kernel
theorem dL_purse_15 : decode cL_purse 15 = .ok (.iconst 0, 1) := by decide +kernel
theorem dL_purse_16 : decode cL_purse 16 = .ok (.ireturn, 1) := by decide +kernel
theorem dL_stateOf_0 : decode cL_stateOf 0 = .ok (.aload_n 2, 1) := by decide +kernel
theorem dL_stateOf_1 : decode cL_stateOf 1 = .ok (.iconst 0, 1) := by decide +kernel
theorem dL_stateOf_2 : decode cL_stateOf 2 = .ok (.aload_n 0, 1) := by decide +kernel
theorem dL_stateOf_3 : decode cL_stateOf 3 = .ok (.iload_n 1, 1) := by decide +kernel
theorem dL_stateOf_4 : decode cL_stateOf 4 = .ok (.invokevirtual 102, 3) := by decide +kernel
theorem dL_stateOf_7 : decode cL_stateOf 7 = .ok (.i2l, 1) := by decide +kernel
theorem dL_stateOf_8 : decode cL_stateOf 8 = .ok (.lastore, 1) := by decide +kernel
theorem dL_stateOf_9 : decode cL_stateOf 9 = .ok (.goto 6, 3) := by decide +kernel
theorem dL_stateOf_12 : decode cL_stateOf 12 = .ok (.astore_n 3, 1) := by decide +kernel
theorem dL_stateOf_13 : decode cL_stateOf 13 = .ok (.iconst 1, 1) := by decide +kernel
theorem dL_stateOf_14 : decode cL_stateOf 14 = .ok (.ireturn, 1) := by decide +kernel
theorem dL_stateOf_15 : decode cL_stateOf 15 = .ok (.iconst 0, 1) := by decide +kernel
theorem dL_stateOf_16 : decode cL_stateOf 16 = .ok (.ireturn, 1) := by decide +kernel
theorem dL_zoneOf_0 : decode cL_zoneOf 0 = .ok (.aload_n 2, 1) := by decide +kernel
theorem dL_zoneOf_1 : decode cL_zoneOf 1 = .ok (.iconst 0, 1) := by decide +kernel
theorem dL_zoneOf_2 : decode cL_zoneOf 2 = .ok (.aload_n 0, 1) := by decide +kernel
theorem dL_zoneOf_3 : decode cL_zoneOf 3 = .ok (.iload_n 1, 1) := by decide +kernel
theorem dL_zoneOf_4 : decode cL_zoneOf 4 = .ok (.invokevirtual 105, 3) := by decide +kernel
theorem dL_zoneOf_7 : decode cL_zoneOf 7 = .ok (.i2l, 1) := by decide +kernel
theorem dL_zoneOf_8 : decode cL_zoneOf 8 = .ok (.lastore, 1) := by decide +kernel
theorem dL_zoneOf_9 : decode cL_zoneOf 9 = .ok (.goto 6, 3) := by decide +kernel
theorem dL_zoneOf_12 : decode cL_zoneOf 12 = .ok (.astore_n 3, 1) := by decide +kernel
theorem dL_zoneOf_13 : decode cL_zoneOf 13 = .ok (.iconst 1, 1) := by decide +kernel
theorem dL_zoneOf_14 : decode cL_zoneOf 14 = .ok (.ireturn, 1) := by decide +kernel
theorem dL_zoneOf_15 : decode cL_zoneOf 15 = .ok (.iconst 0, 1) := by decide +kernel
theorem dL_zoneOf_16 : decode cL_zoneOf 16 = .ok (.ireturn, 1) := by decide +kernel
theorem dL_tangles_0 : decode cL_tangles 0 = .ok (.aload_n 2, 1) := by decide +kernel
theorem dL_tangles_1 : decode cL_tangles 1 = .ok (.iconst 0, 1) := by decide +kernel
theorem dL_tangles_2 : decode cL_tangles 2 = .ok (.aload_n 0, 1) := by decide +kernel
theorem dL_tangles_3 : decode cL_tangles 3 = .ok (.iload_n 1, 1) := by decide +kernel
theorem dL_tangles_4 : decode cL_tangles 4 = .ok (.invokevirtual 108, 3) := by decide +kernel
theorem dL_tangles_7 : decode cL_tangles 7 = .ok (.i2l, 1) := by decide +kernel
theorem dL_tangles_8 : decode cL_tangles 8 = .ok (.lastore, 1) := by decide +kernel
theorem dL_tangles_9 : decode cL_tangles 9 = .ok (.goto 6, 3) := by decide +kernel
theorem dL_tangles_12 : decode cL_tangles 12 = .ok (.astore_n 3, 1) := by decide +kernel
theorem dL_tangles_13 : decode cL_tangles 13 = .ok (.iconst 1, 1) := by decide +kernel
theorem dL_tangles_14 : decode cL_tangles 14 = .ok (.ireturn, 1) := by decide +kernel
theorem dL_tangles_15 : decode cL_tangles 15 = .ok (.iconst 0, 1) := by decide +kernel
theorem dL_tangles_16 : decode cL_tangles 16 = .ok (.ireturn, 1) := by decide +kernel
theorem dL_reach_0 : decode cL_reach 0 = .ok (.aload_n 3, 1) := by decide +kernel
theorem dL_reach_1 : decode cL_reach 1 = .ok (.iconst 0, 1) := by decide +kernel
theorem dL_reach_2 : decode cL_reach 2 = .ok (.aload_n 0, 1) := by decide +kernel
theorem dL_reach_3 : decode cL_reach 3 = .ok (.iload_n 1, 1) := by decide +kernel
theorem dL_reach_4 : decode cL_reach 4 = .ok (.iload_n 2, 1) := by decide +kernel
theorem dL_reach_5 : decode cL_reach 5 = .ok (.invokevirtual 111, 3) := by decide +kernel
theorem dL_reach_8 : decode cL_reach 8 = .ok (.i2l, 1) := by decide +kernel
theorem dL_reach_9 : decode cL_reach 9 = .ok (.lastore, 1) := by decide +kernel
theorem dL_reach_10 : decode cL_reach 10 = .ok (.goto 11, 3) := by decide +kernel
theorem dL_reach_13 : decode cL_reach 13 = .ok (.astore 4, 2) := by decide +kernel
theorem dL_reach_15 : decode cL_reach 15 = .ok (.iconst 1, 1) := by decide +kernel
theorem dL_reach_16 : decode cL_reach 16 = .ok (.ireturn, 1) := by decide +kernel
theorem dL_reach_17 : decode cL_reach 17 = .ok (.astore 4, 2) := by decide +kernel
theorem dL_reach_19 : decode cL_reach 19 = .ok (.iconst 2, 1) := by decide +kernel
theorem dL_reach_20 : decode cL_reach 20 = .ok (.ireturn, 1) := by decide +kernel
theorem dL_reach_21 : decode cL_reach 21 = .ok (.iconst 0, 1) := by decide +kernel
theorem dL_reach_22 : decode cL_reach 22 = .ok (.ireturn, 1) := by decide +kernel
theorem dL_endX_0 : decode cL_endX 0 = .ok (.aload_n 3, 1) := by decide +kernel
theorem dL_endX_1 : decode cL_endX 1 = .ok (.iconst 0, 1) := by decide +kernel
theorem dL_endX_2 : decode cL_endX 2 = .ok (.aload_n 0, 1) := by decide +kernel
theorem dL_endX_3 : decode cL_endX 3 = .ok (.iload_n 1, 1) := by decide +kernel
theorem dL_endX_4 : decode cL_endX 4 = .ok (.iload_n 2, 1) := by decide +kernel
theorem dL_endX_5 : decode cL_endX 5 = .ok (.invokevirtual 114, 3) := by decide +kernel
theorem dL_endX_8 : decode cL_endX 8 = .ok (.i2l, 1) := by decide +kernel
theorem dL_endX_9 : decode cL_endX 9 = .ok (.lastore, 1) := by decide +kernel
theorem dL_endX_10 : decode cL_endX 10 = .ok (.goto 11, 3) := by decide +kernel
theorem dL_endX_13 : decode cL_endX 13 = .ok (.astore 4, 2) := by decide +kernel
theorem dL_endX_15 : decode cL_endX 15 = .ok (.iconst 1, 1) := by decide +kernel
theorem dL_endX_16 : decode cL_endX 16 = .ok (.ireturn, 1) := by decide +kernel
theorem dL_endX_17 : decode cL_endX 17 = .ok (.astore 4, 2) := by decide +kernel
theorem dL_endX_19 : decode cL_endX 19 = .ok (.iconst 2, 1) := by decide +kernel
theorem dL_endX_20 : decode cL_endX 20 = .ok (.ireturn, 1) := by decide +kernel
theorem dL_endX_21 : decode cL_endX 21 = .ok (.iconst 0, 1) := by decide +kernel
theorem dL_endX_22 : decode cL_endX 22 = .ok (.ireturn, 1) := by decide +kernel
theorem dL_endY_0 : decode cL_endY 0 = .ok (.aload_n 3, 1) := by decide +kernel
theorem dL_endY_1 : decode cL_endY 1 = .ok (.iconst 0, 1) := by decide +kernel
theorem dL_endY_2 : decode cL_endY 2 = .ok (.aload_n 0, 1) := by decide +kernel
theorem dL_endY_3 : decode cL_endY 3 = .ok (.iload_n 1, 1) := by decide +kernel
theorem dL_endY_4 : decode cL_endY 4 = .ok (.iload_n 2, 1) := by decide +kernel
theorem dL_endY_5 : decode cL_endY 5 = .ok (.invokevirtual 117, 3) := by decide +kernel
theorem dL_endY_8 : decode cL_endY 8 = .ok (.i2l, 1) := by decide +kernel
theorem dL_endY_9 : decode cL_endY 9 = .ok (.lastore, 1) := by decide +kernel
theorem dL_endY_10 : decode cL_endY 10 = .ok (.goto 11, 3) := by decide +kernel
theorem dL_endY_13 : decode cL_endY 13 = .ok (.astore 4, 2) := by decide +kernel
theorem dL_endY_15 : decode cL_endY 15 = .ok (.iconst 1, 1) := by decide +kernel
theorem dL_endY_16 : decode cL_endY 16 = .ok (.ireturn, 1) := by decide +kernel
theorem dL_endY_17 : decode cL_endY 17 = .ok (.astore 4, 2) := by decide +kernel
theorem dL_endY_19 : decode cL_endY 19 = .ok (.iconst 2, 1) := by decide +kernel
theorem dL_endY_20 : decode cL_endY 20 = .ok (.ireturn, 1) := by decide +kernel
theorem dL_endY_21 : decode cL_endY 21 = .ok (.iconst 0, 1) := by decide +kernel
theorem dL_endY_22 : decode cL_endY 22 = .ok (.ireturn, 1) := by decide +kernel
theorem dL_canFly_0 : decode cL_canFly 0 = .ok (.aload_n 3, 1) := by decide +kernel
theorem dL_canFly_1 : decode cL_canFly 1 = .ok (.iconst 0, 1) := by decide +kernel
theorem dL_canFly_2 : decode cL_canFly 2 = .ok (.aload_n 0, 1) := by decide +kernel
theorem dL_canFly_3 : decode cL_canFly 3 = .ok (.iload_n 1, 1) := by decide +kernel
theorem dL_canFly_4 : decode cL_canFly 4 = .ok (.iload_n 2, 1) := by decide +kernel
theorem dL_canFly_5 : decode cL_canFly 5 = .ok (.invokevirtual 120, 3) := by decide +kernel
theorem dL_canFly_8 : decode cL_canFly 8 = .ok (.ifCond .eq 7, 3) := by decide +kernel
theorem dL_canFly_11 : decode cL_canFly 11 = .ok (.lconst 1, 1) := by decide +kernel
theorem dL_canFly_12 : decode cL_canFly 12 = .ok (.goto 4, 3) := by decide +kernel
theorem dL_canFly_15 : decode cL_canFly 15 = .ok (.lconst 0, 1) := by decide +kernel
theorem dL_canFly_16 : decode cL_canFly 16 = .ok (.lastore, 1) := by decide +kernel
theorem dL_canFly_17 : decode cL_canFly 17 = .ok (.goto 11, 3) := by decide +kernel
theorem dL_canFly_20 : decode cL_canFly 20 = .ok (.astore 4, 2) := by decide +kernel
theorem dL_canFly_22 : decode cL_canFly 22 = .ok (.iconst 1, 1) := by decide +kernel
theorem dL_canFly_23 : decode cL_canFly 23 = .ok (.ireturn, 1) := by decide +kernel
theorem dL_canFly_24 : decode cL_canFly 24 = .ok (.astore 4, 2) := by decide +kernel
theorem dL_canFly_26 : decode cL_canFly 26 = .ok (.iconst 2, 1) := by decide +kernel
theorem dL_canFly_27 : decode cL_canFly 27 = .ok (.ireturn, 1) := by decide +kernel
theorem dL_canFly_28 : decode cL_canFly 28 = .ok (.iconst 0, 1) := by decide +kernel
theorem dL_canFly_29 : decode cL_canFly 29 = .ok (.ireturn, 1) := by decide +kernel
theorem dL_doCross_0 : decode cL_doCross 0 = .ok (.aload 4, 2) := by decide +kernel
theorem dL_doCross_2 : decode cL_doCross 2 = .ok (.iconst 0, 1) := by decide +kernel
theorem dL_doCross_3 : decode cL_doCross 3 = .ok (.aload_n 0, 1) := by decide +kernel
theorem dL_doCross_4 : decode cL_doCross 4 = .ok (.iload_n 1, 1) := by decide +kernel
theorem dL_doCross_5 : decode cL_doCross 5 = .ok (.iload_n 2, 1) := by decide +kernel
theorem dL_doCross_6 : decode cL_doCross 6 = .ok (.iload_n 3, 1) := by decide +kernel
theorem dL_doCross_7 : decode cL_doCross 7 = .ok (.invokevirtual 124, 3) := by decide +kernel
theorem dL_doCross_10 : decode cL_doCross 10 = .ok (.ifCond .eq 7, 3) := by decide +kernel
theorem dL_doCross_13 : decode cL_doCross 13 = .ok (.lconst 1, 1) := by decide +kernel
theorem dL_doCross_14 : decode cL_doCross 14 = .ok (.goto 4, 3) := by decide +kernel
theorem dL_doCross_17 : decode cL_doCross 17 = .ok (.lconst 0, 1) := by decide +kernel
theorem dL_doCross_18 : decode cL_doCross 18 = .ok (.lastore, 1) := by decide +kernel
theorem dL_doCross_19 : decode cL_doCross 19 = .ok (.goto 11, 3) := by decide +kernel
theorem dL_doCross_22 : decode cL_doCross 22 = .ok (.astore 5, 2) := by decide +kernel
theorem dL_doCross_24 : decode cL_doCross 24 = .ok (.iconst 1, 1) := by decide +kernel
theorem dL_doCross_25 : decode cL_doCross 25 = .ok (.ireturn, 1) := by decide +kernel
theorem dL_doCross_26 : decode cL_doCross 26 = .ok (.astore 5, 2) := by decide +kernel
theorem dL_doCross_28 : decode cL_doCross 28 = .ok (.iconst 2, 1) := by decide +kernel
theorem dL_doCross_29 : decode cL_doCross 29 = .ok (.ireturn, 1) := by decide +kernel
theorem dL_doCross_30 : decode cL_doCross 30 = .ok (.iconst 0, 1) := by decide +kernel
theorem dL_doCross_31 : decode cL_doCross 31 = .ok (.ireturn, 1) := by decide +kernel
theorem dL_permitKite_0 : decode cL_permitKite 0 = .ok (.aload_n 2, 1) := by decide +kernel
theorem dL_permitKite_1 : decode cL_permitKite 1 = .ok (.iconst 0, 1) := by decide +kernel
theorem dL_permitKite_2 : decode cL_permitKite 2 = .ok (.aload_n 0, 1) := by decide +kernel
theorem dL_permitKite_3 : decode cL_permitKite 3 = .ok (.iload_n 1, 1) := by decide +kernel
theorem dL_permitKite_4 : decode cL_permitKite 4 = .ok (.invokevirtual 128, 3) := by decide +kernel
theorem dL_permitKite_7 : decode cL_permitKite 7 = .ok (.i2l, 1) := by decide +kernel
theorem dL_permitKite_8 : decode cL_permitKite 8 = .ok (.lastore, 1) := by decide +kernel
theorem dL_permitKite_9 : decode cL_permitKite 9 = .ok (.goto 6, 3) := by decide +kernel
theorem dL_permitKite_12 : decode cL_permitKite 12 = .ok (.astore_n 3, 1) := by decide +kernel
theorem dL_permitKite_13 : decode cL_permitKite 13 = .ok (.iconst 1, 1) := by decide +kernel
theorem dL_permitKite_14 : decode cL_permitKite 14 = .ok (.ireturn, 1) := by decide +kernel
theorem dL_permitKite_15 : decode cL_permitKite 15 = .ok (.iconst 0, 1) := by decide +kernel
theorem dL_permitKite_16 : decode cL_permitKite 16 = .ok (.ireturn, 1) := by decide +kernel
theorem dL_permitStart_0 : decode cL_permitStart 0 = .ok (.aload_n 2, 1) := by decide +kernel
theorem dL_permitStart_1 : decode cL_permitStart 1 = .ok (.iconst 0, 1) := by decide +kernel
theorem dL_permitStart_2 : decode cL_permitStart 2 = .ok (.aload_n 0, 1) := by decide +kernel
theorem dL_permitStart_3 : decode cL_permitStart 3 = .ok (.iload_n 1, 1) := by decide +kernel
theorem dL_permitStart_4 : decode cL_permitStart 4 = .ok (.invokevirtual 131, 3) := by decide +kernel
theorem dL_permitStart_7 : decode cL_permitStart 7 = .ok (.i2l, 1) := by decide +kernel
theorem dL_permitStart_8 : decode cL_permitStart 8 = .ok (.lastore, 1) := by decide +kernel
theorem dL_permitStart_9 : decode cL_permitStart 9 = .ok (.goto 6, 3) := by decide +kernel
theorem dL_permitStart_12 : decode cL_permitStart 12 = .ok (.astore_n 3, 1) := by decide +kernel
theorem dL_permitStart_13 : decode cL_permitStart 13 = .ok (.iconst 1, 1) := by decide +kernel
theorem dL_permitStart_14 : decode cL_permitStart 14 = .ok (.ireturn, 1) := by decide +kernel
theorem dL_permitStart_15 : decode cL_permitStart 15 = .ok (.iconst 0, 1) := by decide +kernel
theorem dL_permitStart_16 : decode cL_permitStart 16 = .ok (.ireturn, 1) := by decide +kernel
theorem dL_permitDuration_0 : decode cL_permitDuration 0 = .ok (.aload_n 2, 1) := by decide +kernel
theorem dL_permitDuration_1 : decode cL_permitDuration 1 = .ok (.iconst 0, 1) := by decide +kernel
theorem dL_permitDuration_2 : decode cL_permitDuration 2 = .ok (.aload_n 0, 1) := by decide +kernel
theorem dL_permitDuration_3 : decode cL_permitDuration 3 = .ok (.iload_n 1, 1) := by decide +kernel
theorem dL_permitDuration_4 : decode cL_permitDuration 4 = .ok (.invokevirtual 134, 3) := by decide +kernel
theorem dL_permitDuration_7 : decode cL_permitDuration 7 = .ok (.i2l, 1) := by decide +kernel
theorem dL_permitDuration_8 : decode cL_permitDuration 8 = .ok (.lastore, 1) := by decide +kernel
theorem dL_permitDuration_9 : decode cL_permitDuration 9 = .ok (.goto 6, 3) := by decide +kernel
theorem dL_permitDuration_12 : decode cL_permitDuration 12 = .ok (.astore_n 3, 1) := by decide +kernel
theorem dL_permitDuration_13 : decode cL_permitDuration 13 = .ok (.iconst 1, 1) := by decide +kernel
theorem dL_permitDuration_14 : decode cL_permitDuration 14 = .ok (.ireturn, 1) := by decide +kernel
theorem dL_permitDuration_15 : decode cL_permitDuration 15 = .ok (.iconst 0, 1) := by decide +kernel
theorem dL_permitDuration_16 : decode cL_permitDuration 16 = .ok (.ireturn, 1) := by decide +kernel
theorem dL_hasPermit_0 : decode cL_hasPermit 0 = .ok (.aload_n 3, 1) := by decide +kernel
theorem dL_hasPermit_1 : decode cL_hasPermit 1 = .ok (.iconst 0, 1) := by decide +kernel
theorem dL_hasPermit_2 : decode cL_hasPermit 2 = .ok (.aload_n 0, 1) := by decide +kernel
theorem dL_hasPermit_3 : decode cL_hasPermit 3 = .ok (.iload_n 1, 1) := by decide +kernel
theorem dL_hasPermit_4 : decode cL_hasPermit 4 = .ok (.iload_n 2, 1) := by decide +kernel
theorem dL_hasPermit_5 : decode cL_hasPermit 5 = .ok (.invokevirtual 137, 3) := by decide +kernel
theorem dL_hasPermit_8 : decode cL_hasPermit 8 = .ok (.ifCond .eq 7, 3) := by decide +kernel
theorem dL_hasPermit_11 : decode cL_hasPermit 11 = .ok (.lconst 1, 1) := by decide +kernel
theorem dL_hasPermit_12 : decode cL_hasPermit 12 = .ok (.goto 4, 3) := by decide +kernel
theorem dL_hasPermit_15 : decode cL_hasPermit 15 = .ok (.lconst 0, 1) := by decide +kernel
theorem dL_hasPermit_16 : decode cL_hasPermit 16 = .ok (.lastore, 1) := by decide +kernel
theorem dL_hasPermit_17 : decode cL_hasPermit 17 = .ok (.goto 11, 3) := by decide +kernel
theorem dL_hasPermit_20 : decode cL_hasPermit 20 = .ok (.astore 4, 2) := by decide +kernel
theorem dL_hasPermit_22 : decode cL_hasPermit 22 = .ok (.iconst 1, 1) := by decide +kernel
theorem dL_hasPermit_23 : decode cL_hasPermit 23 = .ok (.ireturn, 1) := by decide +kernel
theorem dL_hasPermit_24 : decode cL_hasPermit 24 = .ok (.astore 4, 2) := by decide +kernel
theorem dL_hasPermit_26 : decode cL_hasPermit 26 = .ok (.iconst 2, 1) := by decide +kernel
theorem dL_hasPermit_27 : decode cL_hasPermit 27 = .ok (.ireturn, 1) := by decide +kernel
theorem dL_hasPermit_28 : decode cL_hasPermit 28 = .ok (.iconst 0, 1) := by decide +kernel
theorem dL_hasPermit_29 : decode cL_hasPermit 29 = .ok (.ireturn, 1) := by decide +kernel
theorem dL_whyNotPermit_0 : decode cL_whyNotPermit 0 = .ok (.aload 4, 2) := by decide +kernel
theorem dL_whyNotPermit_2 : decode cL_whyNotPermit 2 = .ok (.iconst 0, 1) := by decide +kernel
theorem dL_whyNotPermit_3 : decode cL_whyNotPermit 3 = .ok (.aload_n 0, 1) := by decide +kernel
theorem dL_whyNotPermit_4 : decode cL_whyNotPermit 4 = .ok (.iload_n 1, 1) := by decide +kernel
theorem dL_whyNotPermit_5 : decode cL_whyNotPermit 5 = .ok (.iload_n 2, 1) := by decide +kernel
theorem dL_whyNotPermit_6 : decode cL_whyNotPermit 6 = .ok (.iload_n 3, 1) := by decide +kernel
theorem dL_whyNotPermit_7 : decode cL_whyNotPermit 7 = .ok (.invokevirtual 140, 3) := by decide +kernel
theorem dL_whyNotPermit_10 : decode cL_whyNotPermit 10 = .ok (.i2l, 1) := by decide +kernel
theorem dL_whyNotPermit_11 : decode cL_whyNotPermit 11 = .ok (.lastore, 1) := by decide +kernel
theorem dL_whyNotPermit_12 : decode cL_whyNotPermit 12 = .ok (.goto 11, 3) := by decide +kernel
theorem dL_whyNotPermit_15 : decode cL_whyNotPermit 15 = .ok (.astore 5, 2) := by decide +kernel
theorem dL_whyNotPermit_17 : decode cL_whyNotPermit 17 = .ok (.iconst 1, 1) := by decide +kernel
theorem dL_whyNotPermit_18 : decode cL_whyNotPermit 18 = .ok (.ireturn, 1) := by decide +kernel
theorem dL_whyNotPermit_19 : decode cL_whyNotPermit 19 = .ok (.astore 5, 2) := by decide +kernel
theorem dL_whyNotPermit_21 : decode cL_whyNotPermit 21 = .ok (.iconst 2, 1) := by decide +kernel
theorem dL_whyNotPermit_22 : decode cL_whyNotPermit 22 = .ok (.ireturn, 1) := by decide +kernel
theorem dL_whyNotPermit_23 : decode cL_whyNotPermit 23 = .ok (.iconst 0, 1) := by decide +kernel
theorem dL_whyNotPermit_24 : decode cL_whyNotPermit 24 = .ok (.ireturn, 1) := by decide +kernel
theorem dL_kiteInTheWay_0 : decode cL_kiteInTheWay 0 = .ok (.aload 4, 2) := by decide +kernel
theorem dL_kiteInTheWay_2 : decode cL_kiteInTheWay 2 = .ok (.iconst 0, 1) := by decide +kernel
theorem dL_kiteInTheWay_3 : decode cL_kiteInTheWay 3 = .ok (.aload_n 0, 1) := by decide +kernel
theorem dL_kiteInTheWay_4 : decode cL_kiteInTheWay 4 = .ok (.iload_n 1, 1) := by decide +kernel
theorem dL_kiteInTheWay_5 : decode cL_kiteInTheWay 5 = .ok (.iload_n 2, 1) := by decide +kernel
theorem dL_kiteInTheWay_6 : decode cL_kiteInTheWay 6 = .ok (.iload_n 3, 1) := by decide +kernel
theorem dL_kiteInTheWay_7 : decode cL_kiteInTheWay 7 = .ok (.invokevirtual 143, 3) := by decide +kernel
theorem dL_kiteInTheWay_10 : decode cL_kiteInTheWay 10 = .ok (.i2l, 1) := by decide +kernel
theorem dL_kiteInTheWay_11 : decode cL_kiteInTheWay 11 = .ok (.lastore, 1) := by decide +kernel
theorem dL_kiteInTheWay_12 : decode cL_kiteInTheWay 12 = .ok (.goto 11, 3) := by decide +kernel
theorem dL_kiteInTheWay_15 : decode cL_kiteInTheWay 15 = .ok (.astore 5, 2) := by decide +kernel
theorem dL_kiteInTheWay_17 : decode cL_kiteInTheWay 17 = .ok (.iconst 1, 1) := by decide +kernel
theorem dL_kiteInTheWay_18 : decode cL_kiteInTheWay 18 = .ok (.ireturn, 1) := by decide +kernel
theorem dL_kiteInTheWay_19 : decode cL_kiteInTheWay 19 = .ok (.astore 5, 2) := by decide +kernel
theorem dL_kiteInTheWay_21 : decode cL_kiteInTheWay 21 = .ok (.iconst 2, 1) := by decide +kernel
theorem dL_kiteInTheWay_22 : decode cL_kiteInTheWay 22 = .ok (.ireturn, 1) := by decide +kernel
theorem dL_kiteInTheWay_23 : decode cL_kiteInTheWay 23 = .ok (.iconst 0, 1) := by decide +kernel
theorem dL_kiteInTheWay_24 : decode cL_kiteInTheWay 24 = .ok (.ireturn, 1) := by decide +kernel
theorem dL_earliestStart_0 : decode cL_earliestStart 0 = .ok (.aload_n 3, 1) := by decide +kernel
theorem dL_earliestStart_1 : decode cL_earliestStart 1 = .ok (.iconst 0, 1) := by decide +kernel
theorem dL_earliestStart_2 : decode cL_earliestStart 2 = .ok (.aload_n 0, 1) := by decide +kernel
theorem dL_earliestStart_3 : decode cL_earliestStart 3 = .ok (.iload_n 1, 1) := by decide +kernel
theorem dL_earliestStart_4 : decode cL_earliestStart 4 = .ok (.iload_n 2, 1) := by decide +kernel
theorem dL_earliestStart_5 : decode cL_earliestStart 5 = .ok (.invokevirtual 146, 3) := by decide +kernel
theorem dL_earliestStart_8 : decode cL_earliestStart 8 = .ok (.i2l, 1) := by decide +kernel
theorem dL_earliestStart_9 : decode cL_earliestStart 9 = .ok (.lastore, 1) := by decide +kernel
theorem dL_earliestStart_10 : decode cL_earliestStart 10 = .ok (.goto 11, 3) := by decide +kernel
theorem dL_earliestStart_13 : decode cL_earliestStart 13 = .ok (.astore 4, 2) := by decide +kernel
theorem dL_earliestStart_15 : decode cL_earliestStart 15 = .ok (.iconst 1, 1) := by decide +kernel
theorem dL_earliestStart_16 : decode cL_earliestStart 16 = .ok (.ireturn, 1) := by decide +kernel
theorem dL_earliestStart_17 : decode cL_earliestStart 17 = .ok (.astore 4, 2) := by decide +kernel
theorem dL_earliestStart_19 : decode cL_earliestStart 19 = .ok (.iconst 2, 1) := by decide +kernel
theorem dL_earliestStart_20 : decode cL_earliestStart 20 = .ok (.ireturn, 1) := by decide +kernel
theorem dL_earliestStart_21 : decode cL_earliestStart 21 = .ok (.iconst 0, 1) := by decide +kernel
theorem dL_earliestStart_22 : decode cL_earliestStart 22 = .ok (.ireturn, 1) := by decide +kernel
theorem dL_bestKnots_0 : decode cL_bestKnots 0 = .ok (.aload_n 3, 1) := by decide +kernel
theorem dL_bestKnots_1 : decode cL_bestKnots 1 = .ok (.iconst 0, 1) := by decide +kernel
theorem dL_bestKnots_2 : decode cL_bestKnots 2 = .ok (.aload_n 0, 1) := by decide +kernel
theorem dL_bestKnots_3 : decode cL_bestKnots 3 = .ok (.iload_n 1, 1) := by decide +kernel
theorem dL_bestKnots_4 : decode cL_bestKnots 4 = .ok (.iload_n 2, 1) := by decide +kernel
theorem dL_bestKnots_5 : decode cL_bestKnots 5 = .ok (.invokevirtual 149, 3) := by decide +kernel
theorem dL_bestKnots_8 : decode cL_bestKnots 8 = .ok (.i2l, 1) := by decide +kernel
theorem dL_bestKnots_9 : decode cL_bestKnots 9 = .ok (.lastore, 1) := by decide +kernel
theorem dL_bestKnots_10 : decode cL_bestKnots 10 = .ok (.goto 11, 3) := by decide +kernel
theorem dL_bestKnots_13 : decode cL_bestKnots 13 = .ok (.astore 4, 2) := by decide +kernel
theorem dL_bestKnots_15 : decode cL_bestKnots 15 = .ok (.iconst 1, 1) := by decide +kernel
theorem dL_bestKnots_16 : decode cL_bestKnots 16 = .ok (.ireturn, 1) := by decide +kernel
theorem dL_bestKnots_17 : decode cL_bestKnots 17 = .ok (.astore 4, 2) := by decide +kernel
theorem dL_bestKnots_19 : decode cL_bestKnots 19 = .ok (.iconst 2, 1) := by decide +kernel
theorem dL_bestKnots_20 : decode cL_bestKnots 20 = .ok (.ireturn, 1) := by decide +kernel
theorem dL_bestKnots_21 : decode cL_bestKnots 21 = .ok (.iconst 0, 1) := by decide +kernel
theorem dL_bestKnots_22 : decode cL_bestKnots 22 = .ok (.ireturn, 1) := by decide +kernel
theorem dL_guiltyKite_0 : decode cL_guiltyKite 0 = .ok (.aload_n 3, 1) := by decide +kernel
theorem dL_guiltyKite_1 : decode cL_guiltyKite 1 = .ok (.iconst 0, 1) := by decide +kernel
theorem dL_guiltyKite_2 : decode cL_guiltyKite 2 = .ok (.aload_n 0, 1) := by decide +kernel
theorem dL_guiltyKite_3 : decode cL_guiltyKite 3 = .ok (.iload_n 1, 1) := by decide +kernel
theorem dL_guiltyKite_4 : decode cL_guiltyKite 4 = .ok (.iload_n 2, 1) := by decide +kernel
theorem dL_guiltyKite_5 : decode cL_guiltyKite 5 = .ok (.invokevirtual 152, 3) := by decide +kernel
theorem dL_guiltyKite_8 : decode cL_guiltyKite 8 = .ok (.i2l, 1) := by decide +kernel
theorem dL_guiltyKite_9 : decode cL_guiltyKite 9 = .ok (.lastore, 1) := by decide +kernel
theorem dL_guiltyKite_10 : decode cL_guiltyKite 10 = .ok (.goto 15, 3) := by decide +kernel
theorem dL_guiltyKite_13 : decode cL_guiltyKite 13 = .ok (.astore 4, 2) := by decide +kernel
theorem dL_guiltyKite_15 : decode cL_guiltyKite 15 = .ok (.iconst 1, 1) := by decide +kernel
theorem dL_guiltyKite_16 : decode cL_guiltyKite 16 = .ok (.ireturn, 1) := by decide +kernel
theorem dL_guiltyKite_17 : decode cL_guiltyKite 17 = .ok (.astore 4, 2) := by decide +kernel
theorem dL_guiltyKite_19 : decode cL_guiltyKite 19 = .ok (.iconst 2, 1) := by decide +kernel
theorem dL_guiltyKite_20 : decode cL_guiltyKite 20 = .ok (.ireturn, 1) := by decide +kernel
theorem dL_guiltyKite_21 : decode cL_guiltyKite 21 = .ok (.astore 4, 2) := by decide +kernel
theorem dL_guiltyKite_23 : decode cL_guiltyKite 23 = .ok (.iconst 3, 1) := by decide +kernel
theorem dL_guiltyKite_24 : decode cL_guiltyKite 24 = .ok (.ireturn, 1) := by decide +kernel
theorem dL_guiltyKite_25 : decode cL_guiltyKite 25 = .ok (.iconst 0, 1) := by decide +kernel
theorem dL_guiltyKite_26 : decode cL_guiltyKite 26 = .ok (.ireturn, 1) := by decide +kernel
theorem dL_verdictsIn_0 : decode cL_verdictsIn 0 = .ok (.aload_n 2, 1) := by decide +kernel
theorem dL_verdictsIn_1 : decode cL_verdictsIn 1 = .ok (.iconst 0, 1) := by decide +kernel
theorem dL_verdictsIn_2 : decode cL_verdictsIn 2 = .ok (.aload_n 0, 1) := by decide +kernel
theorem dL_verdictsIn_3 : decode cL_verdictsIn 3 = .ok (.iload_n 1, 1) := by decide +kernel
theorem dL_verdictsIn_4 : decode cL_verdictsIn 4 = .ok (.invokevirtual 155, 3) := by decide +kernel
theorem dL_verdictsIn_7 : decode cL_verdictsIn 7 = .ok (.i2l, 1) := by decide +kernel
theorem dL_verdictsIn_8 : decode cL_verdictsIn 8 = .ok (.lastore, 1) := by decide +kernel
theorem dL_verdictsIn_9 : decode cL_verdictsIn 9 = .ok (.goto 6, 3) := by decide +kernel
theorem dL_verdictsIn_12 : decode cL_verdictsIn 12 = .ok (.astore_n 3, 1) := by decide +kernel
theorem dL_verdictsIn_13 : decode cL_verdictsIn 13 = .ok (.iconst 1, 1) := by decide +kernel
theorem dL_verdictsIn_14 : decode cL_verdictsIn 14 = .ok (.ireturn, 1) := by decide +kernel
theorem dL_verdictsIn_15 : decode cL_verdictsIn 15 = .ok (.iconst 0, 1) := by decide +kernel
theorem dL_verdictsIn_16 : decode cL_verdictsIn 16 = .ok (.ireturn, 1) := by decide +kernel
