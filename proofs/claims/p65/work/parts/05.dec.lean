theorem dX0_init_0 : decode cX0_init 0 = .ok (.aload_n 0, 1) := by decide +kernel
theorem dX0_init_1 : decode cX0_init 1 = .ok (.invokespecial 3, 3) := by decide +kernel
theorem dX0_init_4 : decode cX0_init 4 = .ok (.aload_n 0, 1) := by decide +kernel
theorem dX0_init_5 : decode cX0_init 5 = .ok (.iconst 4, 1) := by decide +kernel
theorem dX0_init_6 : decode cX0_init 6 = .ok (.newarray .int, 2) := by decide +kernel
theorem dX0_init_8 : decode cX0_init 8 = .ok (.putfield 9, 3) := by decide +kernel
theorem dX0_init_11 : decode cX0_init 11 = .ok (.aload_n 0, 1) := by decide +kernel
theorem dX0_init_12 : decode cX0_init 12 = .ok (.bipush 24, 2) := by decide +kernel
theorem dX0_init_14 : decode cX0_init 14 = .ok (.newarray .int, 2) := by decide +kernel
theorem dX0_init_16 : decode cX0_init 16 = .ok (.putfield 15, 3) := by decide +kernel
theorem dX0_init_19 : decode cX0_init 19 = .ok (.aload_n 0, 1) := by decide +kernel
theorem dX0_init_20 : decode cX0_init 20 = .ok (.bipush 24, 2) := by decide +kernel
theorem dX0_init_22 : decode cX0_init 22 = .ok (.newarray .int, 2) := by decide +kernel
theorem dX0_init_24 : decode cX0_init 24 = .ok (.putfield 18, 3) := by decide +kernel
theorem dX0_init_27 : decode cX0_init 27 = .ok (.aload_n 0, 1) := by decide +kernel
theorem dX0_init_28 : decode cX0_init 28 = .ok (.bipush 6, 2) := by decide +kernel
theorem dX0_init_30 : decode cX0_init 30 = .ok (.newarray .int, 2) := by decide +kernel
theorem dX0_init_32 : decode cX0_init 32 = .ok (.putfield 21, 3) := by decide +kernel
theorem dX0_init_35 : decode cX0_init 35 = .ok (.return_, 1) := by decide +kernel
theorem dX0_copyFrom_0 : decode cX0_copyFrom 0 = .ok (.aload_n 0, 1) := by decide +kernel
theorem dX0_copyFrom_1 : decode cX0_copyFrom 1 = .ok (.aload_n 1, 1) := by decide +kernel
theorem dX0_copyFrom_2 : decode cX0_copyFrom 2 = .ok (.getfield 24, 3) := by decide +kernel
theorem dX0_copyFrom_5 : decode cX0_copyFrom 5 = .ok (.putfield 24, 3) := by decide +kernel
theorem dX0_copyFrom_8 : decode cX0_copyFrom 8 = .ok (.aload_n 0, 1) := by decide +kernel
theorem dX0_copyFrom_9 : decode cX0_copyFrom 9 = .ok (.aload_n 1, 1) := by decide +kernel
theorem dX0_copyFrom_10 : decode cX0_copyFrom 10 = .ok (.getfield 28, 3) := by decide +kernel
theorem dX0_copyFrom_13 : decode cX0_copyFrom 13 = .ok (.putfield 28, 3) := by decide +kernel
theorem dX0_copyFrom_16 : decode cX0_copyFrom 16 = .ok (.aload_n 0, 1) := by decide +kernel
theorem dX0_copyFrom_17 : decode cX0_copyFrom 17 = .ok (.aload_n 1, 1) := by decide +kernel
theorem dX0_copyFrom_18 : decode cX0_copyFrom 18 = .ok (.getfield 31, 3) := by decide +kernel
theorem dX0_copyFrom_21 : decode cX0_copyFrom 21 = .ok (.putfield 31, 3) := by decide +kernel
theorem dX0_copyFrom_24 : decode cX0_copyFrom 24 = .ok (.aload_n 0, 1) := by decide +kernel
theorem dX0_copyFrom_25 : decode cX0_copyFrom 25 = .ok (.aload_n 1, 1) := by decide +kernel
theorem dX0_copyFrom_26 : decode cX0_copyFrom 26 = .ok (.getfield 34, 3) := by decide +kernel
theorem dX0_copyFrom_29 : decode cX0_copyFrom 29 = .ok (.putfield 34, 3) := by decide +kernel
theorem dX0_copyFrom_32 : decode cX0_copyFrom 32 = .ok (.aload_n 0, 1) := by decide +kernel
theorem dX0_copyFrom_33 : decode cX0_copyFrom 33 = .ok (.aload_n 1, 1) := by decide +kernel
theorem dX0_copyFrom_34 : decode cX0_copyFrom 34 = .ok (.getfield 37, 3) := by decide +kernel
theorem dX0_copyFrom_37 : decode cX0_copyFrom 37 = .ok (.putfield 37, 3) := by decide +kernel
theorem dX0_copyFrom_40 : decode cX0_copyFrom 40 = .ok (.aload_n 1, 1) := by decide +kernel
theorem dX0_copyFrom_41 : decode cX0_copyFrom 41 = .ok (.getfield 9, 3) := by decide +kernel
theorem dX0_copyFrom_44 : decode cX0_copyFrom 44 = .ok (.iconst 0, 1) := by decide +kernel
theorem dX0_copyFrom_45 : decode cX0_copyFrom 45 = .ok (.aload_n 0, 1) := by decide +kernel
theorem dX0_copyFrom_46 : decode cX0_copyFrom 46 = .ok (.getfield 9, 3) := by decide +kernel
theorem dX0_copyFrom_49 : decode cX0_copyFrom 49 = .ok (.iconst 0, 1) := by decide +kernel
theorem dX0_copyFrom_50 : decode cX0_copyFrom 50 = .ok (.iconst 4, 1) := by decide +kernel
theorem dX0_copyFrom_51 : decode cX0_copyFrom 51 = .ok (.invokestatic 40, 3) := by decide +kernel
theorem dX0_copyFrom_54 : decode cX0_copyFrom 54 = .ok (.aload_n 1, 1) := by decide +kernel
theorem dX0_copyFrom_55 : decode cX0_copyFrom 55 = .ok (.getfield 15, 3) := by decide +kernel
theorem dX0_copyFrom_58 : decode cX0_copyFrom 58 = .ok (.iconst 0, 1) := by decide +kernel
theorem dX0_copyFrom_59 : decode cX0_copyFrom 59 = .ok (.aload_n 0, 1) := by decide +kernel
theorem dX0_copyFrom_60 : decode cX0_copyFrom 60 = .ok (.getfield 15, 3) := by decide +kernel
theorem dX0_copyFrom_63 : decode cX0_copyFrom 63 = .ok (.iconst 0, 1) := by decide +kernel
theorem dX0_copyFrom_64 : decode cX0_copyFrom 64 = .ok (.bipush 24, 2) := by decide +kernel
theorem dX0_copyFrom_66 : decode cX0_copyFrom 66 = .ok (.invokestatic 40, 3) := by decide +kernel
theorem dX0_copyFrom_69 : decode cX0_copyFrom 69 = .ok (.aload_n 1, 1) := by decide +kernel
theorem dX0_copyFrom_70 : decode cX0_copyFrom 70 = .ok (.getfield 18, 3) := by decide +kernel
theorem dX0_copyFrom_73 : decode cX0_copyFrom 73 = .ok (.iconst 0, 1) := by decide +kernel
theorem dX0_copyFrom_74 : decode cX0_copyFrom 74 = .ok (.aload_n 0, 1) := by decide +kernel
theorem dX0_copyFrom_75 : decode cX0_copyFrom 75 = .ok (.getfield 18, 3) := by decide +kernel
theorem dX0_copyFrom_78 : decode cX0_copyFrom 78 = .ok (.iconst 0, 1) := by decide +kernel
theorem dX0_copyFrom_79 : decode cX0_copyFrom 79 = .ok (.bipush 24, 2) := by decide +kernel
theorem dX0_copyFrom_81 : decode cX0_copyFrom 81 = .ok (.invokestatic 40, 3) := by decide +kernel
theorem dX0_copyFrom_84 : decode cX0_copyFrom 84 = .ok (.aload_n 0, 1) := by decide +kernel
theorem dX0_copyFrom_85 : decode cX0_copyFrom 85 = .ok (.aload_n 1, 1) := by decide +kernel
theorem dX0_copyFrom_86 : decode cX0_copyFrom 86 = .ok (.getfield 46, 3) := by decide +kernel
theorem dX0_copyFrom_89 : decode cX0_copyFrom 89 = .ok (.putfield 46, 3) := by decide +kernel
theorem dX0_copyFrom_92 : decode cX0_copyFrom 92 = .ok (.aload_n 1, 1) := by decide +kernel
theorem dX0_copyFrom_93 : decode cX0_copyFrom 93 = .ok (.getfield 21, 3) := by decide +kernel
theorem dX0_copyFrom_96 : decode cX0_copyFrom 96 = .ok (.iconst 0, 1) := by decide +kernel
theorem dX0_copyFrom_97 : decode cX0_copyFrom 97 = .ok (.aload_n 0, 1) := by decide +kernel
theorem dX0_copyFrom_98 : decode cX0_copyFrom 98 = .ok (.getfield 21, 3) := by decide +kernel
theorem dX0_copyFrom_101 : decode cX0_copyFrom 101 = .ok (.iconst 0, 1) := by decide +kernel
theorem dX0_copyFrom_102 : decode cX0_copyFrom 102 = .ok (.bipush 6, 2) := by decide +kernel
theorem dX0_copyFrom_104 : decode cX0_copyFrom 104 = .ok (.invokestatic 40, 3) := by decide +kernel
theorem dX0_copyFrom_107 : decode cX0_copyFrom 107 = .ok (.return_, 1) := by decide +kernel
theorem dX0_openZone_0 : decode cX0_openZone 0 = .ok (.aload_n 0, 1) := by decide +kernel
theorem dX0_openZone_1 : decode cX0_openZone 1 = .ok (.getfield 37, 3) := by decide +kernel
theorem dX0_openZone_4 : decode cX0_openZone 4 = .ok (.iconst 4, 1) := by decide +kernel
theorem dX0_openZone_5 : decode cX0_openZone 5 = .ok (.if_icmp .ge 23, 3) := by decide +kernel
theorem dX0_openZone_8 : decode cX0_openZone 8 = .ok (.aload_n 0, 1) := by decide +kernel
theorem dX0_openZone_9 : decode cX0_openZone 9 = .ok (.getfield 9, 3) := by decide +kernel
theorem dX0_openZone_12 : decode cX0_openZone 12 = .ok (.aload_n 0, 1) := by decide +kernel
theorem dX0_openZone_13 : decode cX0_openZone 13 = .ok (.getfield 37, 3) := by decide +kernel
theorem dX0_openZone_16 : decode cX0_openZone 16 = .ok (.iconst 0, 1) := by decide +kernel
theorem dX0_openZone_17 : decode cX0_openZone 17 = .ok (.iastore, 1) := by decide +kernel
theorem dX0_openZone_18 : decode cX0_openZone 18 = .ok (.aload_n 0, 1) := by decide +kernel
theorem dX0_openZone_19 : decode cX0_openZone 19 = .ok (.dup, 1) := by decide +kernel
theorem dX0_openZone_20 : decode cX0_openZone 20 = .ok (.getfield 37, 3) := by decide +kernel
theorem dX0_openZone_23 : decode cX0_openZone 23 = .ok (.iconst 1, 1) := by decide +kernel
theorem dX0_openZone_24 : decode cX0_openZone 24 = .ok (.iadd, 1) := by decide +kernel
theorem dX0_openZone_25 : decode cX0_openZone 25 = .ok (.putfield 37, 3) := by decide +kernel
theorem dX0_openZone_28 : decode cX0_openZone 28 = .ok (.return_, 1) := by decide +kernel
theorem dX0_addWind_0 : decode cX0_addWind 0 = .ok (.aload_n 0, 1) := by decide +kernel
theorem dX0_addWind_1 : decode cX0_addWind 1 = .ok (.getfield 37, 3) := by decide +kernel
theorem dX0_addWind_4 : decode cX0_addWind 4 = .ok (.iconst 1, 1) := by decide +kernel
theorem dX0_addWind_5 : decode cX0_addWind 5 = .ok (.isub, 1) := by decide +kernel
theorem dX0_addWind_6 : decode cX0_addWind 6 = .ok (.istore_n 3, 1) := by decide +kernel
theorem dX0_addWind_7 : decode cX0_addWind 7 = .ok (.iload_n 3, 1) := by decide +kernel
theorem dX0_addWind_8 : decode cX0_addWind 8 = .ok (.ifCond .lt 53, 3) := by decide +kernel
theorem dX0_addWind_11 : decode cX0_addWind 11 = .ok (.aload_n 0, 1) := by decide +kernel
theorem dX0_addWind_12 : decode cX0_addWind 12 = .ok (.getfield 9, 3) := by decide +kernel
theorem dX0_addWind_15 : decode cX0_addWind 15 = .ok (.iload_n 3, 1) := by decide +kernel
theorem dX0_addWind_16 : decode cX0_addWind 16 = .ok (.iaload, 1) := by decide +kernel
theorem dX0_addWind_17 : decode cX0_addWind 17 = .ok (.bipush 6, 2) := by decide +kernel
theorem dX0_addWind_19 : decode cX0_addWind 19 = .ok (.if_icmp .ge 42, 3) := by decide +kernel
theorem dX0_addWind_22 : decode cX0_addWind 22 = .ok (.iload_n 3, 1) := by decide +kernel
theorem dX0_addWind_23 : decode cX0_addWind 23 = .ok (.bipush 6, 2) := by decide +kernel
theorem dX0_addWind_25 : decode cX0_addWind 25 = .ok (.imul, 1) := by decide +kernel
theorem dX0_addWind_26 : decode cX0_addWind 26 = .ok (.aload_n 0, 1) := by decide +kernel
theorem dX0_addWind_27 : decode cX0_addWind 27 = .ok (.getfield 9, 3) := by decide +kernel
theorem dX0_addWind_30 : decode cX0_addWind 30 = .ok (.iload_n 3, 1) := by decide +kernel
theorem dX0_addWind_31 : decode cX0_addWind 31 = .ok (.iaload, 1) := by decide +kernel
theorem dX0_addWind_32 : decode cX0_addWind 32 = .ok (.iadd, 1) := by decide +kernel
theorem dX0_addWind_33 : decode cX0_addWind 33 = .ok (.istore 4, 2) := by decide +kernel
theorem dX0_addWind_35 : decode cX0_addWind 35 = .ok (.aload_n 0, 1) := by decide +kernel
theorem dX0_addWind_36 : decode cX0_addWind 36 = .ok (.getfield 15, 3) := by decide +kernel
theorem dX0_addWind_39 : decode cX0_addWind 39 = .ok (.iload 4, 2) := by decide +kernel
theorem dX0_addWind_41 : decode cX0_addWind 41 = .ok (.iload_n 1, 1) := by decide +kernel
theorem dX0_addWind_42 : decode cX0_addWind 42 = .ok (.iastore, 1) := by decide +kernel
theorem dX0_addWind_43 : decode cX0_addWind 43 = .ok (.aload_n 0, 1) := by decide +kernel
theorem dX0_addWind_44 : decode cX0_addWind 44 = .ok (.getfield 18, 3) := by decide +kernel
theorem dX0_addWind_47 : decode cX0_addWind 47 = .ok (.iload 4, 2) := by decide +kernel
theorem dX0_addWind_49 : decode cX0_addWind 49 = .ok (.iload_n 2, 1) := by decide +kernel
theorem dX0_addWind_50 : decode cX0_addWind 50 = .ok (.iastore, 1) := by decide +kernel
theorem dX0_addWind_51 : decode cX0_addWind 51 = .ok (.aload_n 0, 1) := by decide +kernel
theorem dX0_addWind_52 : decode cX0_addWind 52 = .ok (.getfield 9, 3) := by decide +kernel
theorem dX0_addWind_55 : decode cX0_addWind 55 = .ok (.iload_n 3, 1) := by decide +kernel
theorem dX0_addWind_56 : decode cX0_addWind 56 = .ok (.dup2, 1) := by decide +kernel
theorem dX0_addWind_57 : decode cX0_addWind 57 = .ok (.iaload, 1) := by decide +kernel
theorem dX0_addWind_58 : decode cX0_addWind 58 = .ok (.iconst 1, 1) := by decide +kernel
theorem dX0_addWind_59 : decode cX0_addWind 59 = .ok (.iadd, 1) := by decide +kernel
theorem dX0_addWind_60 : decode cX0_addWind 60 = .ok (.iastore, 1) := by decide +kernel
theorem dX0_addWind_61 : decode cX0_addWind 61 = .ok (.return_, 1) := by decide +kernel
theorem dX0_addColour_0 : decode cX0_addColour 0 = .ok (.aload_n 0, 1) := by decide +kernel
theorem dX0_addColour_1 : decode cX0_addColour 1 = .ok (.getfield 46, 3) := by decide +kernel
theorem dX0_addColour_4 : decode cX0_addColour 4 = .ok (.bipush 6, 2) := by decide +kernel
theorem dX0_addColour_6 : decode cX0_addColour 6 = .ok (.if_icmp .ge 23, 3) := by decide +kernel
theorem dX0_addColour_9 : decode cX0_addColour 9 = .ok (.aload_n 0, 1) := by decide +kernel
theorem dX0_addColour_10 : decode cX0_addColour 10 = .ok (.getfield 21, 3) := by decide +kernel
theorem dX0_addColour_13 : decode cX0_addColour 13 = .ok (.aload_n 0, 1) := by decide +kernel
theorem dX0_addColour_14 : decode cX0_addColour 14 = .ok (.getfield 46, 3) := by decide +kernel
theorem dX0_addColour_17 : decode cX0_addColour 17 = .ok (.iload_n 1, 1) := by decide +kernel
theorem dX0_addColour_18 : decode cX0_addColour 18 = .ok (.iastore, 1) := by decide +kernel
theorem dX0_addColour_19 : decode cX0_addColour 19 = .ok (.aload_n 0, 1) := by decide +kernel
theorem dX0_addColour_20 : decode cX0_addColour 20 = .ok (.dup, 1) := by decide +kernel
theorem dX0_addColour_21 : decode cX0_addColour 21 = .ok (.getfield 46, 3) := by decide +kernel
theorem dX0_addColour_24 : decode cX0_addColour 24 = .ok (.iconst 1, 1) := by decide +kernel
theorem dX0_addColour_25 : decode cX0_addColour 25 = .ok (.iadd, 1) := by decide +kernel
theorem dX0_addColour_26 : decode cX0_addColour 26 = .ok (.putfield 46, 3) := by decide +kernel
theorem dX0_addColour_29 : decode cX0_addColour 29 = .ok (.return_, 1) := by decide +kernel
theorem dX0_zoneAt_0 : decode cX0_zoneAt 0 = .ok (.aload_n 0, 1) := by decide +kernel
theorem dX0_zoneAt_1 : decode cX0_zoneAt 1 = .ok (.getfield 24, 3) := by decide +kernel
theorem dX0_zoneAt_4 : decode cX0_zoneAt 4 = .ok (.iconst 1, 1) := by decide +kernel
theorem dX0_zoneAt_5 : decode cX0_zoneAt 5 = .ok (.if_icmp .ge 7, 3) := by decide +kernel
theorem dX0_zoneAt_8 : decode cX0_zoneAt 8 = .ok (.iconst 0, 1) := by decide +kernel
theorem dX0_zoneAt_9 : decode cX0_zoneAt 9 = .ok (.goto 14, 3) := by decide +kernel
theorem dX0_zoneAt_12 : decode cX0_zoneAt 12 = .ok (.iload_n 1, 1) := by decide +kernel
theorem dX0_zoneAt_13 : decode cX0_zoneAt 13 = .ok (.aload_n 0, 1) := by decide +kernel
theorem dX0_zoneAt_14 : decode cX0_zoneAt 14 = .ok (.getfield 37, 3) := by decide +kernel
theorem dX0_zoneAt_17 : decode cX0_zoneAt 17 = .ok (.imul, 1) := by decide +kernel
theorem dX0_zoneAt_18 : decode cX0_zoneAt 18 = .ok (.aload_n 0, 1) := by decide +kernel
theorem dX0_zoneAt_19 : decode cX0_zoneAt 19 = .ok (.getfield 24, 3) := by decide +kernel
theorem dX0_zoneAt_22 : decode cX0_zoneAt 22 = .ok (.idiv, 1) := by decide +kernel
theorem dX0_zoneAt_23 : decode cX0_zoneAt 23 = .ok (.ireturn, 1) := by decide +kernel
theorem dX0_windIndex_0 : decode cX0_windIndex 0 = .ok (.iload_n 1, 1) := by decide +kernel
theorem dX0_windIndex_1 : decode cX0_windIndex 1 = .ok (.bipush 6, 2) := by decide +kernel
theorem dX0_windIndex_3 : decode cX0_windIndex 3 = .ok (.imul, 1) := by decide +kernel
theorem dX0_windIndex_4 : decode cX0_windIndex 4 = .ok (.istore_n 3, 1) := by decide +kernel
theorem dX0_windIndex_5 : decode cX0_windIndex 5 = .ok (.aload_n 0, 1) := by decide +kernel
theorem dX0_windIndex_6 : decode cX0_windIndex 6 = .ok (.getfield 9, 3) := by decide +kernel
theorem dX0_windIndex_9 : decode cX0_windIndex 9 = .ok (.iload_n 1, 1) := by decide +kernel
theorem dX0_windIndex_10 : decode cX0_windIndex 10 = .ok (.iaload, 1) := by decide +kernel
theorem dX0_windIndex_11 : decode cX0_windIndex 11 = .ok (.iconst 1, 1) := by decide +kernel
theorem dX0_windIndex_12 : decode cX0_windIndex 12 = .ok (.if_icmp .ge 7, 3) := by decide +kernel
theorem dX0_windIndex_15 : decode cX0_windIndex 15 = .ok (.iload_n 3, 1) := by decide +kernel
theorem dX0_windIndex_16 : decode cX0_windIndex 16 = .ok (.goto 13, 3) := by decide +kernel
theorem dX0_windIndex_19 : decode cX0_windIndex 19 = .ok (.iload_n 3, 1) := by decide +kernel
theorem dX0_windIndex_20 : decode cX0_windIndex 20 = .ok (.iload_n 2, 1) := by decide +kernel
theorem dX0_windIndex_21 : decode cX0_windIndex 21 = .ok (.aload_n 0, 1) := by decide +kernel
theorem dX0_windIndex_22 : decode cX0_windIndex 22 = .ok (.getfield 9, 3) := by decide +kernel
theorem dX0_windIndex_25 : decode cX0_windIndex 25 = .ok (.iload_n 1, 1) := by decide +kernel
theorem dX0_windIndex_26 : decode cX0_windIndex 26 = .ok (.iaload, 1) := by decide +kernel
theorem dX0_windIndex_27 : decode cX0_windIndex 27 = .ok (.irem, 1) := by decide +kernel
theorem dX0_windIndex_28 : decode cX0_windIndex 28 = .ok (.iadd, 1) := by decide +kernel
theorem dX0_windIndex_29 : decode cX0_windIndex 29 = .ok (.ireturn, 1) := by decide +kernel
theorem dX0_contains_0 : decode cX0_contains 0 = .ok (.iload_n 1, 1) := by decide +kernel
theorem dX0_contains_1 : decode cX0_contains 1 = .ok (.ifCond .lt 27, 3) := by decide +kernel
theorem dX0_contains_4 : decode cX0_contains 4 = .ok (.iload_n 1, 1) := by decide +kernel
theorem dX0_contains_5 : decode cX0_contains 5 = .ok (.aload_n 0, 1) := by decide +kernel
theorem dX0_contains_6 : decode cX0_contains 6 = .ok (.getfield 24, 3) := by decide +kernel
theorem dX0_contains_9 : decode cX0_contains 9 = .ok (.if_icmp .ge 19, 3) := by decide +kernel
theorem dX0_contains_12 : decode cX0_contains 12 = .ok (.iload_n 2, 1) := by decide +kernel
theorem dX0_contains_13 : decode cX0_contains 13 = .ok (.ifCond .lt 15, 3) := by decide +kernel
theorem dX0_contains_16 : decode cX0_contains 16 = .ok (.iload_n 2, 1) := by decide +kernel
theorem dX0_contains_17 : decode cX0_contains 17 = .ok (.aload_n 0, 1) := by decide +kernel
theorem dX0_contains_18 : decode cX0_contains 18 = .ok (.getfield 28, 3) := by decide +kernel
theorem dX0_contains_21 : decode cX0_contains 21 = .ok (.if_icmp .ge 7, 3) := by decide +kernel
theorem dX0_contains_24 : decode cX0_contains 24 = .ok (.iconst 1, 1) := by decide +kernel
theorem dX0_contains_25 : decode cX0_contains 25 = .ok (.goto 4, 3) := by decide +kernel
theorem dX0_contains_28 : decode cX0_contains 28 = .ok (.iconst 0, 1) := by decide +kernel
theorem dX0_contains_29 : decode cX0_contains 29 = .ok (.ireturn, 1) := by decide +kernel
theorem dX1_init_0 : decode cX1_init 0 = .ok (.aload_n 0, 1) := by decide +kernel
theorem dX1_init_1 : decode cX1_init 1 = .ok (.invokespecial 3, 3) := by decide +kernel
theorem dX1_init_4 : decode cX1_init 4 = .ok (.aload_n 0, 1) := by decide +kernel
theorem dX1_init_5 : decode cX1_init 5 = .ok (.bipush 16, 2) := by decide +kernel
theorem dX1_init_7 : decode cX1_init 7 = .ok (.newarray .int, 2) := by decide +kernel
theorem dX1_init_9 : decode cX1_init 9 = .ok (.putfield 9, 3) := by decide +kernel
theorem dX1_init_12 : decode cX1_init 12 = .ok (.aload_n 0, 1) := by decide +kernel
theorem dX1_init_13 : decode cX1_init 13 = .ok (.bipush 16, 2) := by decide +kernel
theorem dX1_init_15 : decode cX1_init 15 = .ok (.newarray .int, 2) := by decide +kernel
theorem dX1_init_17 : decode cX1_init 17 = .ok (.putfield 15, 3) := by decide +kernel
theorem dX1_init_20 : decode cX1_init 20 = .ok (.aload_n 0, 1) := by decide +kernel
theorem dX1_init_21 : decode cX1_init 21 = .ok (.bipush 16, 2) := by decide +kernel
theorem dX1_init_23 : decode cX1_init 23 = .ok (.newarray .int, 2) := by decide +kernel
theorem dX1_init_25 : decode cX1_init 25 = .ok (.putfield 18, 3) := by decide +kernel
theorem dX1_init_28 : decode cX1_init 28 = .ok (.aload_n 0, 1) := by decide +kernel
theorem dX1_init_29 : decode cX1_init 29 = .ok (.bipush 16, 2) := by decide +kernel
theorem dX1_init_31 : decode cX1_init 31 = .ok (.newarray .int, 2) := by decide +kernel
theorem dX1_init_33 : decode cX1_init 33 = .ok (.putfield 21, 3) := by decide +kernel
theorem dX1_init_36 : decode cX1_init 36 = .ok (.aload_n 0, 1) := by decide +kernel
theorem dX1_init_37 : decode cX1_init 37 = .ok (.bipush 16, 2) := by decide +kernel
theorem dX1_init_39 : decode cX1_init 39 = .ok (.newarray .int, 2) := by decide +kernel
theorem dX1_init_41 : decode cX1_init 41 = .ok (.putfield 24, 3) := by decide +kernel
theorem dX1_init_44 : decode cX1_init 44 = .ok (.aload_n 0, 1) := by decide +kernel
theorem dX1_init_45 : decode cX1_init 45 = .ok (.bipush 16, 2) := by decide +kernel
theorem dX1_init_47 : decode cX1_init 47 = .ok (.newarray .int, 2) := by decide +kernel
theorem dX1_init_49 : decode cX1_init 49 = .ok (.putfield 27, 3) := by decide +kernel
theorem dX1_init_52 : decode cX1_init 52 = .ok (.aload_n 0, 1) := by decide +kernel
theorem dX1_init_53 : decode cX1_init 53 = .ok (.bipush 16, 2) := by decide +kernel
theorem dX1_init_55 : decode cX1_init 55 = .ok (.newarray .int, 2) := by decide +kernel
theorem dX1_init_57 : decode cX1_init 57 = .ok (.putfield 30, 3) := by decide +kernel
theorem dX1_init_60 : decode cX1_init 60 = .ok (.aload_n 0, 1) := by decide +kernel
theorem dX1_init_61 : decode cX1_init 61 = .ok (.bipush 16, 2) := by decide +kernel
theorem dX1_init_63 : decode cX1_init 63 = .ok (.newarray .int, 2) := by decide +kernel
theorem dX1_init_65 : decode cX1_init 65 = .ok (.putfield 33, 3) := by decide +kernel
theorem dX1_init_68 : decode cX1_init 68 = .ok (.aload_n 0, 1) := by decide +kernel
theorem dX1_init_69 : decode cX1_init 69 = .ok (.bipush 16, 2) := by decide +kernel
theorem dX1_init_71 : decode cX1_init 71 = .ok (.newarray .int, 2) := by decide +kernel
theorem dX1_init_73 : decode cX1_init 73 = .ok (.putfield 36, 3) := by decide +kernel
theorem dX1_init_76 : decode cX1_init 76 = .ok (.aload_n 0, 1) := by decide +kernel
theorem dX1_init_77 : decode cX1_init 77 = .ok (.bipush 16, 2) := by decide +kernel
theorem dX1_init_79 : decode cX1_init 79 = .ok (.newarray .int, 2) := by decide +kernel
theorem dX1_init_81 : decode cX1_init 81 = .ok (.putfield 39, 3) := by decide +kernel
theorem dX1_init_84 : decode cX1_init 84 = .ok (.return_, 1) := by decide +kernel
theorem dX1_copyFrom_0 : decode cX1_copyFrom 0 = .ok (.aload_n 0, 1) := by decide +kernel
theorem dX1_copyFrom_1 : decode cX1_copyFrom 1 = .ok (.aload_n 1, 1) := by decide +kernel
theorem dX1_copyFrom_2 : decode cX1_copyFrom 2 = .ok (.getfield 42, 3) := by decide +kernel
theorem dX1_copyFrom_5 : decode cX1_copyFrom 5 = .ok (.putfield 42, 3) := by decide +kernel
theorem dX1_copyFrom_8 : decode cX1_copyFrom 8 = .ok (.aload_n 0, 1) := by decide +kernel
theorem dX1_copyFrom_9 : decode cX1_copyFrom 9 = .ok (.aload_n 1, 1) := by decide +kernel
theorem dX1_copyFrom_10 : decode cX1_copyFrom 10 = .ok (.getfield 46, 3) := by decide +kernel
theorem dX1_copyFrom_13 : decode cX1_copyFrom 13 = .ok (.putfield 46, 3) := by decide +kernel
theorem dX1_copyFrom_16 : decode cX1_copyFrom 16 = .ok (.aload_n 1, 1) := by decide +kernel
theorem dX1_copyFrom_17 : decode cX1_copyFrom 17 = .ok (.getfield 9, 3) := by decide +kernel
theorem dX1_copyFrom_20 : decode cX1_copyFrom 20 = .ok (.iconst 0, 1) := by decide +kernel
theorem dX1_copyFrom_21 : decode cX1_copyFrom 21 = .ok (.aload_n 0, 1) := by decide +kernel
theorem dX1_copyFrom_22 : decode cX1_copyFrom 22 = .ok (.getfield 9, 3) := by decide +kernel
theorem dX1_copyFrom_25 : decode cX1_copyFrom 25 = .ok (.iconst 0, 1) := by decide +kernel
theorem dX1_copyFrom_26 : decode cX1_copyFrom 26 = .ok (.bipush 16, 2) := by decide +kernel
theorem dX1_copyFrom_28 : decode cX1_copyFrom 28 = .ok (.invokestatic 49, 3) := by decide +kernel
theorem dX1_copyFrom_31 : decode cX1_copyFrom 31 = .ok (.aload_n 1, 1) := by decide +kernel
theorem dX1_copyFrom_32 : decode cX1_copyFrom 32 = .ok (.getfield 15, 3) := by decide +kernel
theorem dX1_copyFrom_35 : decode cX1_copyFrom 35 = .ok (.iconst 0, 1) := by decide +kernel
theorem dX1_copyFrom_36 : decode cX1_copyFrom 36 = .ok (.aload_n 0, 1) := by decide +kernel
theorem dX1_copyFrom_37 : decode cX1_copyFrom 37 = .ok (.getfield 15, 3) := by decide +kernel
theorem dX1_copyFrom_40 : decode cX1_copyFrom 40 = .ok (.iconst 0, 1) := by decide +kernel
theorem dX1_copyFrom_41 : decode cX1_copyFrom 41 = .ok (.bipush 16, 2) := by decide +kernel
theorem dX1_copyFrom_43 : decode cX1_copyFrom 43 = .ok (.invokestatic 49, 3) := by decide +kernel
theorem dX1_copyFrom_46 : decode cX1_copyFrom 46 = .ok (.aload_n 1, 1) := by decide +kernel
theorem dX1_copyFrom_47 : decode cX1_copyFrom 47 = .ok (.getfield 18, 3) := by decide +kernel
theorem dX1_copyFrom_50 : decode cX1_copyFrom 50 = .ok (.iconst 0, 1) := by decide +kernel
theorem dX1_copyFrom_51 : decode cX1_copyFrom 51 = .ok (.aload_n 0, 1) := by decide +kernel
theorem dX1_copyFrom_52 : decode cX1_copyFrom 52 = .ok (.getfield 18, 3) := by decide +kernel
theorem dX1_copyFrom_55 : decode cX1_copyFrom 55 = .ok (.iconst 0, 1) := by decide +kernel
theorem dX1_copyFrom_56 : decode cX1_copyFrom 56 = .ok (.bipush 16, 2) := by decide +kernel
theorem dX1_copyFrom_58 : decode cX1_copyFrom 58 = .ok (.invokestatic 49, 3) := by decide +kernel
theorem dX1_copyFrom_61 : decode cX1_copyFrom 61 = .ok (.aload_n 1, 1) := by decide +kernel
theorem dX1_copyFrom_62 : decode cX1_copyFrom 62 = .ok (.getfield 21, 3) := by decide +kernel
theorem dX1_copyFrom_65 : decode cX1_copyFrom 65 = .ok (.iconst 0, 1) := by decide +kernel
theorem dX1_copyFrom_66 : decode cX1_copyFrom 66 = .ok (.aload_n 0, 1) := by decide +kernel
theorem dX1_copyFrom_67 : decode cX1_copyFrom 67 = .ok (.getfield 21, 3) := by decide +kernel
theorem dX1_copyFrom_70 : decode cX1_copyFrom 70 = .ok (.iconst 0, 1) := by decide +kernel
theorem dX1_copyFrom_71 : decode cX1_copyFrom 71 = .ok (.bipush 16, 2) := by decide +kernel
theorem dX1_copyFrom_73 : decode cX1_copyFrom 73 = .ok (.invokestatic 49, 3) := by decide +kernel
theorem dX1_copyFrom_76 : decode cX1_copyFrom 76 = .ok (.aload_n 1, 1) := by decide +kernel
theorem dX1_copyFrom_77 : decode cX1_copyFrom 77 = .ok (.getfield 24, 3) := by decide +kernel
theorem dX1_copyFrom_80 : decode cX1_copyFrom 80 = .ok (.iconst 0, 1) := by decide +kernel
theorem dX1_copyFrom_81 : decode cX1_copyFrom 81 = .ok (.aload_n 0, 1) := by decide +kernel
theorem dX1_copyFrom_82 : decode cX1_copyFrom 82 = .ok (.getfield 24, 3) := by decide +kernel
theorem dX1_copyFrom_85 : decode cX1_copyFrom 85 = .ok (.iconst 0, 1) := by decide +kernel
theorem dX1_copyFrom_86 : decode cX1_copyFrom 86 = .ok (.bipush 16, 2) := by decide +kernel
theorem dX1_copyFrom_88 : decode cX1_copyFrom 88 = .ok (.invokestatic 49, 3) := by decide +kernel
theorem dX1_copyFrom_91 : decode cX1_copyFrom 91 = .ok (.aload_n 1, 1) := by decide +kernel
theorem dX1_copyFrom_92 : decode cX1_copyFrom 92 = .ok (.getfield 27, 3) := by decide +kernel
theorem dX1_copyFrom_95 : decode cX1_copyFrom 95 = .ok (.iconst 0, 1) := by decide +kernel
theorem dX1_copyFrom_96 : decode cX1_copyFrom 96 = .ok (.aload_n 0, 1) := by decide +kernel
theorem dX1_copyFrom_97 : decode cX1_copyFrom 97 = .ok (.getfield 27, 3) := by decide +kernel
theorem dX1_copyFrom_100 : decode cX1_copyFrom 100 = .ok (.iconst 0, 1) := by decide +kernel
theorem dX1_copyFrom_101 : decode cX1_copyFrom 101 = .ok (.bipush 16, 2) := by decide +kernel
theorem dX1_copyFrom_103 : decode cX1_copyFrom 103 = .ok (.invokestatic 49, 3) := by decide +kernel
theorem dX1_copyFrom_106 : decode cX1_copyFrom 106 = .ok (.aload_n 1, 1) := by decide +kernel
theorem dX1_copyFrom_107 : decode cX1_copyFrom 107 = .ok (.getfield 30, 3) := by decide +kernel
theorem dX1_copyFrom_110 : decode cX1_copyFrom 110 = .ok (.iconst 0, 1) := by decide +kernel
theorem dX1_copyFrom_111 : decode cX1_copyFrom 111 = .ok (.aload_n 0, 1) := by decide +kernel
theorem dX1_copyFrom_112 : decode cX1_copyFrom 112 = .ok (.getfield 30, 3) := by decide +kernel
theorem dX1_copyFrom_115 : decode cX1_copyFrom 115 = .ok (.iconst 0, 1) := by decide +kernel
theorem dX1_copyFrom_116 : decode cX1_copyFrom 116 = .ok (.bipush 16, 2) := by decide +kernel
theorem dX1_copyFrom_118 : decode cX1_copyFrom 118 = .ok (.invokestatic 49, 3) := by decide +kernel
theorem dX1_copyFrom_121 : decode cX1_copyFrom 121 = .ok (.aload_n 1, 1) := by decide +kernel
theorem dX1_copyFrom_122 : decode cX1_copyFrom 122 = .ok (.getfield 33, 3) := by decide +kernel
theorem dX1_copyFrom_125 : decode cX1_copyFrom 125 = .ok (.iconst 0, 1) := by decide +kernel
theorem dX1_copyFrom_126 : decode cX1_copyFrom 126 = .ok (.aload_n 0, 1) := by decide +kernel
theorem dX1_copyFrom_127 : decode cX1_copyFrom 127 = .ok (.getfield 33, 3) := by decide +kernel
theorem dX1_copyFrom_130 : decode cX1_copyFrom 130 = .ok (.iconst 0, 1) := by decide +kernel
theorem dX1_copyFrom_131 : decode cX1_copyFrom 131 = .ok (.bipush 16, 2) := by decide +kernel
theorem dX1_copyFrom_133 : decode cX1_copyFrom 133 = .ok (.invokestatic 49, 3) := by decide +kernel
theorem dX1_copyFrom_136 : decode cX1_copyFrom 136 = .ok (.aload_n 1, 1) := by decide +kernel
theorem dX1_copyFrom_137 : decode cX1_copyFrom 137 = .ok (.getfield 36, 3) := by decide +kernel
theorem dX1_copyFrom_140 : decode cX1_copyFrom 140 = .ok (.iconst 0, 1) := by decide +kernel
theorem dX1_copyFrom_141 : decode cX1_copyFrom 141 = .ok (.aload_n 0, 1) := by decide +kernel
theorem dX1_copyFrom_142 : decode cX1_copyFrom 142 = .ok (.getfield 36, 3) := by decide +kernel
theorem dX1_copyFrom_145 : decode cX1_copyFrom 145 = .ok (.iconst 0, 1) := by decide +kernel
theorem dX1_copyFrom_146 : decode cX1_copyFrom 146 = .ok (.bipush 16, 2) := by decide +kernel
theorem dX1_copyFrom_148 : decode cX1_copyFrom 148 = .ok (.invokestatic 49, 3) := by decide +kernel
theorem dX1_copyFrom_151 : decode cX1_copyFrom 151 = .ok (.aload_n 1, 1) := by decide +kernel
theorem dX1_copyFrom_152 : decode cX1_copyFrom 152 = .ok (.getfield 39, 3) := by decide +kernel
theorem dX1_copyFrom_155 : decode cX1_copyFrom 155 = .ok (.iconst 0, 1) := by decide +kernel
theorem dX1_copyFrom_156 : decode cX1_copyFrom 156 = .ok (.aload_n 0, 1) := by decide +kernel
theorem dX1_copyFrom_157 : decode cX1_copyFrom 157 = .ok (.getfield 39, 3) := by decide +kernel
theorem dX1_copyFrom_160 : decode cX1_copyFrom 160 = .ok (.iconst 0, 1) := by decide +kernel
theorem dX1_copyFrom_161 : decode cX1_copyFrom 161 = .ok (.bipush 16, 2) := by decide +kernel
theorem dX1_copyFrom_163 : decode cX1_copyFrom 163 = .ok (.invokestatic 49, 3) := by decide +kernel
theorem dX1_copyFrom_166 : decode cX1_copyFrom 166 = .ok (.return_, 1) := by decide +kernel
theorem dX1_countInState_0 : decode cX1_countInState 0 = .ok (.iconst 0, 1) := by decide +kernel
theorem dX1_countInState_1 : decode cX1_countInState 1 = .ok (.istore_n 2, 1) := by decide +kernel
theorem dX1_countInState_2 : decode cX1_countInState 2 = .ok (.iconst 0, 1) := by decide +kernel
theorem dX1_countInState_3 : decode cX1_countInState 3 = .ok (.istore_n 3, 1) := by decide +kernel
theorem dX1_countInState_4 : decode cX1_countInState 4 = .ok (.iload_n 3, 1) := by decide +kernel
theorem dX1_countInState_5 : decode cX1_countInState 5 = .ok (.aload_n 0, 1) := by decide +kernel
theorem dX1_countInState_6 : decode cX1_countInState 6 = .ok (.getfield 42, 3) := by decide +kernel
theorem dX1_countInState_9 : decode cX1_countInState 9 = .ok (.if_icmp .ge 22, 3) := by decide +kernel
theorem dX1_countInState_12 : decode cX1_countInState 12 = .ok (.aload_n 0, 1) := by decide +kernel
theorem dX1_countInState_13 : decode cX1_countInState 13 = .ok (.getfield 33, 3) := by decide +kernel
theorem dX1_countInState_16 : decode cX1_countInState 16 = .ok (.iload_n 3, 1) := by decide +kernel
theorem dX1_countInState_17 : decode cX1_countInState 17 = .ok (.iaload, 1) := by decide +kernel
theorem dX1_countInState_18 : decode cX1_countInState 18 = .ok (.iload_n 1, 1) := by decide +kernel
theorem dX1_countInState_19 : decode cX1_countInState 19 = .ok (.if_icmp .ne 6, 3) := by decide +kernel
theorem dX1_countInState_22 : decode cX1_countInState 22 = .ok (.iinc 2 1, 3) := by decide +kernel
theorem dX1_countInState_25 : decode cX1_countInState 25 = .ok (.iinc 3 1, 3) := by decide +kernel
theorem dX1_countInState_28 : decode cX1_countInState 28 = .ok (.goto (-24), 3) := by decide +kernel
theorem dX1_countInState_31 : decode cX1_countInState 31 = .ok (.iload_n 2, 1) := by decide +kernel
theorem dX1_countInState_32 : decode cX1_countInState 32 = .ok (.ireturn, 1) := by decide +kernel
theorem dX1_pursesTogether_0 : decode cX1_pursesTogether 0 = .ok (.iconst 0, 1) := by decide +kernel
theorem dX1_pursesTogether_1 : decode cX1_pursesTogether 1 = .ok (.istore_n 1, 1) := by decide +kernel
theorem dX1_pursesTogether_2 : decode cX1_pursesTogether 2 = .ok (.iconst 0, 1) := by decide +kernel
theorem dX1_pursesTogether_3 : decode cX1_pursesTogether 3 = .ok (.istore_n 2, 1) := by decide +kernel
theorem dX1_pursesTogether_4 : decode cX1_pursesTogether 4 = .ok (.iload_n 2, 1) := by decide +kernel
theorem dX1_pursesTogether_5 : decode cX1_pursesTogether 5 = .ok (.aload_n 0, 1) := by decide +kernel
theorem dX1_pursesTogether_6 : decode cX1_pursesTogether 6 = .ok (.getfield 42, 3) := by decide +kernel
theorem dX1_pursesTogether_9 : decode cX1_pursesTogether 9 = .ok (.if_icmp .ge 18, 3) := by decide +kernel
theorem dX1_pursesTogether_12 : decode cX1_pursesTogether 12 = .ok (.iload_n 1, 1) := by decide +kernel
theorem dX1_pursesTogether_13 : decode cX1_pursesTogether 13 = .ok (.aload_n 0, 1) := by decide +kernel
theorem dX1_pursesTogether_14 : decode cX1_pursesTogether 14 = .ok (.getfield 30, 3) := by decide +kernel
theorem dX1_pursesTogether_17 : decode cX1_pursesTogether 17 = .ok (.iload_n 2, 1) := by decide +kernel
theorem dX1_pursesTogether_18 : decode cX1_pursesTogether 18 = .ok (.iaload, 1) := by decide +kernel
theorem dX1_pursesTogether_19 : decode cX1_pursesTogether 19 = .ok (.iadd, 1) := by decide +kernel
theorem dX1_pursesTogether_20 : decode cX1_pursesTogether 20 = .ok (.istore_n 1, 1) := by decide +kernel
theorem dX1_pursesTogether_21 : decode cX1_pursesTogether 21 = .ok (.iinc 2 1, 3) := by decide +kernel
theorem dX1_pursesTogether_24 : decode cX1_pursesTogether 24 = .ok (.goto (-20), 3) := by decide +kernel
theorem dX1_pursesTogether_27 : decode cX1_pursesTogether 27 = .ok (.iload_n 1, 1) := by decide +kernel
theorem dX1_pursesTogether_28 : decode cX1_pursesTogether 28 = .ok (.ireturn, 1) := by decide +kernel
theorem dX2_init_0 : decode cX2_init 0 = .ok (.aload_n 0, 1) := by decide +kernel
theorem dX2_init_1 : decode cX2_init 1 = .ok (.invokespecial 3, 3) := by decide +kernel
theorem dX2_init_4 : decode cX2_init 4 = .ok (.aload_n 0, 1) := by decide +kernel
theorem dX2_init_5 : decode cX2_init 5 = .ok (.bipush 8, 2) := by decide +kernel
theorem dX2_init_7 : decode cX2_init 7 = .ok (.anewarray 9, 3) := by decide +kernel
theorem dX2_init_10 : decode cX2_init 10 = .ok (.putfield 11, 3) := by decide +kernel
theorem dX2_init_13 : decode cX2_init 13 = .ok (.iconst 0, 1) := by decide +kernel
theorem dX2_init_14 : decode cX2_init 14 = .ok (.istore_n 1, 1) := by decide +kernel
theorem dX2_init_15 : decode cX2_init 15 = .ok (.iload_n 1, 1) := by decide +kernel
theorem dX2_init_16 : decode cX2_init 16 = .ok (.bipush 8, 2) := by decide +kernel
theorem dX2_init_18 : decode cX2_init 18 = .ok (.if_icmp .ge 22, 3) := by decide +kernel
theorem dX2_init_21 : decode cX2_init 21 = .ok (.aload_n 0, 1) := by decide +kernel
theorem dX2_init_22 : decode cX2_init 22 = .ok (.getfield 11, 3) := by decide +kernel
theorem dX2_init_25 : decode cX2_init 25 = .ok (.iload_n 1, 1) := by decide +kernel
theorem dX2_init_26 : decode cX2_init 26 = .ok (.new 9, 3) := by decide +kernel
theorem dX2_init_29 : decode cX2_init 29 = .ok (.dup, 1) := by decide +kernel
theorem dX2_init_30 : decode cX2_init 30 = .ok (.invokespecial 17, 3) := by decide +kernel
theorem dX2_init_33 : decode cX2_init 33 = .ok (.aastore, 1) := by decide +kernel
theorem dX2_init_34 : decode cX2_init 34 = .ok (.iinc 1 1, 3) := by decide +kernel
theorem dX2_init_37 : decode cX2_init 37 = .ok (.goto (-22), 3) := by decide +kernel
theorem dX2_init_40 : decode cX2_init 40 = .ok (.return_, 1) := by decide +kernel
theorem dX2_remember_0 : decode cX2_remember 0 = .ok (.aload_n 0, 1) := by decide +kernel
theorem dX2_remember_1 : decode cX2_remember 1 = .ok (.getfield 11, 3) := by decide +kernel
theorem dX2_remember_4 : decode cX2_remember 4 = .ok (.aload_n 0, 1) := by decide +kernel
theorem dX2_remember_5 : decode cX2_remember 5 = .ok (.getfield 18, 3) := by decide +kernel
theorem dX2_remember_8 : decode cX2_remember 8 = .ok (.aaload, 1) := by decide +kernel
theorem dX2_remember_9 : decode cX2_remember 9 = .ok (.aload_n 1, 1) := by decide +kernel
theorem dX2_remember_10 : decode cX2_remember 10 = .ok (.invokevirtual 22, 3) := by decide +kernel
theorem dX2_remember_13 : decode cX2_remember 13 = .ok (.aload_n 0, 1) := by decide +kernel
theorem dX2_remember_14 : decode cX2_remember 14 = .ok (.aload_n 0, 1) := by decide +kernel
theorem dX2_remember_15 : decode cX2_remember 15 = .ok (.getfield 18, 3) := by decide +kernel
theorem dX2_remember_18 : decode cX2_remember 18 = .ok (.iconst 1, 1) := by decide +kernel
theorem dX2_remember_19 : decode cX2_remember 19 = .ok (.iadd, 1) := by decide +kernel
theorem dX2_remember_20 : decode cX2_remember 20 = .ok (.bipush 8, 2) := by decide +kernel
theorem dX2_remember_22 : decode cX2_remember 22 = .ok (.irem, 1) := by decide +kernel
theorem dX2_remember_23 : decode cX2_remember 23 = .ok (.putfield 18, 3) := by decide +kernel
theorem dX2_remember_26 : decode cX2_remember 26 = .ok (.aload_n 0, 1) := by decide +kernel
theorem dX2_remember_27 : decode cX2_remember 27 = .ok (.aload_n 0, 1) := by decide +kernel
theorem dX2_remember_28 : decode cX2_remember 28 = .ok (.getfield 26, 3) := by decide +kernel
theorem dX2_remember_31 : decode cX2_remember 31 = .ok (.iconst 1, 1) := by decide +kernel
theorem dX2_remember_32 : decode cX2_remember 32 = .ok (.iadd, 1) := by decide +kernel
theorem dX2_remember_33 : decode cX2_remember 33 = .ok (.bipush 8, 2) := by decide +kernel
theorem dX2_remember_35 : decode cX2_remember 35 = .ok (.invokestatic 29, 3) := by decide +kernel
theorem dX2_remember_38 : decode cX2_remember 38 = .ok (.putfield 26, 3) := by decide +kernel
theorem dX2_remember_41 : decode cX2_remember 41 = .ok (.return_, 1) := by decide +kernel
theorem dX3_init_0 : decode cX3_init 0 = .ok (.aload_n 0, 1) := by decide +kernel
theorem dX3_init_1 : decode cX3_init 1 = .ok (.invokespecial 3, 3) := by decide +kernel
theorem dX3_init_4 : decode cX3_init 4 = .ok (.aload_n 0, 1) := by decide +kernel
theorem dX3_init_5 : decode cX3_init 5 = .ok (.sipush 500, 3) := by decide +kernel
theorem dX3_init_8 : decode cX3_init 8 = .ok (.newarray .int, 2) := by decide +kernel
theorem dX3_init_10 : decode cX3_init 10 = .ok (.putfield 9, 3) := by decide +kernel
theorem dX3_init_13 : decode cX3_init 13 = .ok (.aload_n 0, 1) := by decide +kernel
theorem dX3_init_14 : decode cX3_init 14 = .ok (.iconst (-1), 1) := by decide +kernel
theorem dX3_init_15 : decode cX3_init 15 = .ok (.putfield 15, 3) := by decide +kernel
theorem dX3_init_18 : decode cX3_init 18 = .ok (.return_, 1) := by decide +kernel
theorem dX4_init_0 : decode cX4_init 0 = .ok (.aload_n 0, 1) := by decide +kernel
theorem dX4_init_1 : decode cX4_init 1 = .ok (.invokespecial 3, 3) := by decide +kernel
theorem dX4_init_4 : decode cX4_init 4 = .ok (.aload_n 0, 1) := by decide +kernel
theorem dX4_init_5 : decode cX4_init 5 = .ok (.new 9, 3) := by decide +kernel
theorem dX4_init_8 : decode cX4_init 8 = .ok (.dup, 1) := by decide +kernel
theorem dX4_init_9 : decode cX4_init 9 = .ok (.invokespecial 11, 3) := by decide +kernel
theorem dX4_init_12 : decode cX4_init 12 = .ok (.putfield 12, 3) := by decide +kernel
theorem dX4_init_15 : decode cX4_init 15 = .ok (.aload_n 0, 1) := by decide +kernel
theorem dX4_init_16 : decode cX4_init 16 = .ok (.new 18, 3) := by decide +kernel
theorem dX4_init_19 : decode cX4_init 19 = .ok (.dup, 1) := by decide +kernel
theorem dX4_init_20 : decode cX4_init 20 = .ok (.invokespecial 20, 3) := by decide +kernel
theorem dX4_init_23 : decode cX4_init 23 = .ok (.putfield 21, 3) := by decide +kernel
theorem dX4_init_26 : decode cX4_init 26 = .ok (.aload_n 0, 1) := by decide +kernel
theorem dX4_init_27 : decode cX4_init 27 = .ok (.new 25, 3) := by decide +kernel
theorem dX4_init_30 : decode cX4_init 30 = .ok (.dup, 1) := by decide +kernel
theorem dX4_init_31 : decode cX4_init 31 = .ok (.invokespecial 27, 3) := by decide +kernel
theorem dX4_init_34 : decode cX4_init 34 = .ok (.putfield 28, 3) := by decide +kernel
theorem dX4_init_37 : decode cX4_init 37 = .ok (.aload_n 0, 1) := by decide +kernel
theorem dX4_init_38 : decode cX4_init 38 = .ok (.bipush 16, 2) := by decide +kernel
theorem dX4_init_40 : decode cX4_init 40 = .ok (.newarray .boolean, 2) := by decide +kernel
theorem dX4_init_42 : decode cX4_init 42 = .ok (.putfield 32, 3) := by decide +kernel
theorem dX4_init_45 : decode cX4_init 45 = .ok (.return_, 1) := by decide +kernel
theorem dX4_copyFrom_0 : decode cX4_copyFrom 0 = .ok (.aload_n 0, 1) := by decide +kernel
theorem dX4_copyFrom_1 : decode cX4_copyFrom 1 = .ok (.getfield 12, 3) := by decide +kernel
theorem dX4_copyFrom_4 : decode cX4_copyFrom 4 = .ok (.aload_n 1, 1) := by decide +kernel
theorem dX4_copyFrom_5 : decode cX4_copyFrom 5 = .ok (.getfield 12, 3) := by decide +kernel
theorem dX4_copyFrom_8 : decode cX4_copyFrom 8 = .ok (.invokevirtual 36, 3) := by decide +kernel
theorem dX4_copyFrom_11 : decode cX4_copyFrom 11 = .ok (.aload_n 0, 1) := by decide +kernel
theorem dX4_copyFrom_12 : decode cX4_copyFrom 12 = .ok (.getfield 21, 3) := by decide +kernel
theorem dX4_copyFrom_15 : decode cX4_copyFrom 15 = .ok (.aload_n 1, 1) := by decide +kernel
theorem dX4_copyFrom_16 : decode cX4_copyFrom 16 = .ok (.getfield 21, 3) := by decide +kernel
theorem dX4_copyFrom_19 : decode cX4_copyFrom 19 = .ok (.invokevirtual 40, 3) := by decide +kernel
theorem dX4_copyFrom_22 : decode cX4_copyFrom 22 = .ok (.aload_n 0, 1) := by decide +kernel
theorem dX4_copyFrom_23 : decode cX4_copyFrom 23 = .ok (.getfield 28, 3) := by decide +kernel
theorem dX4_copyFrom_26 : decode cX4_copyFrom 26 = .ok (.aload_n 1, 1) := by decide +kernel
theorem dX4_copyFrom_27 : decode cX4_copyFrom 27 = .ok (.getfield 28, 3) := by decide +kernel
theorem dX4_copyFrom_30 : decode cX4_copyFrom 30 = .ok (.invokevirtual 43, 3) := by decide +kernel
theorem dX4_copyFrom_33 : decode cX4_copyFrom 33 = .ok (.aload_n 0, 1) := by decide +kernel
theorem dX4_copyFrom_34 : decode cX4_copyFrom 34 = .ok (.aload_n 1, 1) := by decide +kernel
theorem dX4_copyFrom_35 : decode cX4_copyFrom 35 = .ok (.getfield 46, 3) := by decide +kernel
theorem dX4_copyFrom_38 : decode cX4_copyFrom 38 = .ok (.putfield 46, 3) := by decide +kernel
theorem dX4_copyFrom_41 : decode cX4_copyFrom 41 = .ok (.aload_n 0, 1) := by decide +kernel
theorem dX4_copyFrom_42 : decode cX4_copyFrom 42 = .ok (.aload_n 1, 1) := by decide +kernel
theorem dX4_copyFrom_43 : decode cX4_copyFrom 43 = .ok (.getfield 50, 3) := by decide +kernel
theorem dX4_copyFrom_46 : decode cX4_copyFrom 46 = .ok (.putfield 50, 3) := by decide +kernel
theorem dX4_copyFrom_49 : decode cX4_copyFrom 49 = .ok (.aload_n 0, 1) := by decide +kernel
theorem dX4_copyFrom_50 : decode cX4_copyFrom 50 = .ok (.aload_n 1, 1) := by decide +kernel
theorem dX4_copyFrom_51 : decode cX4_copyFrom 51 = .ok (.getfield 53, 3) := by decide +kernel
theorem dX4_copyFrom_54 : decode cX4_copyFrom 54 = .ok (.putfield 53, 3) := by decide +kernel
theorem dX4_copyFrom_57 : decode cX4_copyFrom 57 = .ok (.return_, 1) := by decide +kernel
theorem dX4_hasKite_0 : decode cX4_hasKite 0 = .ok (.iload_n 1, 1) := by decide +kernel
theorem dX4_hasKite_1 : decode cX4_hasKite 1 = .ok (.ifCond .lt 18, 3) := by decide +kernel
theorem dX4_hasKite_4 : decode cX4_hasKite 4 = .ok (.iload_n 1, 1) := by decide +kernel
theorem dX4_hasKite_5 : decode cX4_hasKite 5 = .ok (.aload_n 0, 1) := by decide +kernel
theorem dX4_hasKite_6 : decode cX4_hasKite 6 = .ok (.getfield 21, 3) := by decide +kernel
theorem dX4_hasKite_9 : decode cX4_hasKite 9 = .ok (.getfield 62, 3) := by decide +kernel
theorem dX4_hasKite_12 : decode cX4_hasKite 12 = .ok (.if_icmp .ge 7, 3) := by decide +kernel
theorem dX4_hasKite_15 : decode cX4_hasKite 15 = .ok (.iconst 1, 1) := by decide +kernel
theorem dX4_hasKite_16 : decode cX4_hasKite 16 = .ok (.goto 4, 3) := by decide +kernel
theorem dX4_hasKite_19 : decode cX4_hasKite 19 = .ok (.iconst 0, 1) := by decide +kernel
theorem dX4_hasKite_20 : decode cX4_hasKite 20 = .ok (.ireturn, 1) := by decide +kernel
theorem dX4_enterKite_0 : decode cX4_enterKite 0 = .ok (.aload_n 0, 1) := by decide +kernel
theorem dX4_enterKite_1 : decode cX4_enterKite 1 = .ok (.getfield 21, 3) := by decide +kernel
theorem dX4_enterKite_4 : decode cX4_enterKite 4 = .ok (.getfield 62, 3) := by decide +kernel
theorem dX4_enterKite_7 : decode cX4_enterKite 7 = .ok (.istore 7, 2) := by decide +kernel
theorem dX4_enterKite_9 : decode cX4_enterKite 9 = .ok (.iload 7, 2) := by decide +kernel
theorem dX4_enterKite_11 : decode cX4_enterKite 11 = .ok (.bipush 16, 2) := by decide +kernel
theorem dX4_enterKite_13 : decode cX4_enterKite 13 = .ok (.if_icmp .lt 5, 3) := by decide +kernel
theorem dX4_enterKite_16 : decode cX4_enterKite 16 = .ok (.iconst (-1), 1) := by decide +kernel
theorem dX4_enterKite_17 : decode cX4_enterKite 17 = .ok (.ireturn, 1) := by decide +kernel
theorem dX4_enterKite_18 : decode cX4_enterKite 18 = .ok (.aload_n 0, 1) := by decide +kernel
theorem dX4_enterKite_19 : decode cX4_enterKite 19 = .ok (.getfield 21, 3) := by decide +kernel
theorem dX4_enterKite_22 : decode cX4_enterKite 22 = .ok (.getfield 69, 3) := by decide +kernel
theorem dX4_enterKite_25 : decode cX4_enterKite 25 = .ok (.iload 7, 2) := by decide +kernel
theorem dX4_enterKite_27 : decode cX4_enterKite 27 = .ok (.iload_n 1, 1) := by decide +kernel
theorem dX4_enterKite_28 : decode cX4_enterKite 28 = .ok (.iastore, 1) := by decide +kernel
theorem dX4_enterKite_29 : decode cX4_enterKite 29 = .ok (.aload_n 0, 1) := by decide +kernel
theorem dX4_enterKite_30 : decode cX4_enterKite 30 = .ok (.getfield 21, 3) := by decide +kernel
theorem dX4_enterKite_33 : decode cX4_enterKite 33 = .ok (.getfield 73, 3) := by decide +kernel
theorem dX4_enterKite_36 : decode cX4_enterKite 36 = .ok (.iload 7, 2) := by decide +kernel
theorem dX4_enterKite_38 : decode cX4_enterKite 38 = .ok (.iload_n 2, 1) := by decide +kernel
theorem dX4_enterKite_39 : decode cX4_enterKite 39 = .ok (.iastore, 1) := by decide +kernel
theorem dX4_enterKite_40 : decode cX4_enterKite 40 = .ok (.aload_n 0, 1) := by decide +kernel
theorem dX4_enterKite_41 : decode cX4_enterKite 41 = .ok (.getfield 21, 3) := by decide +kernel
theorem dX4_enterKite_44 : decode cX4_enterKite 44 = .ok (.getfield 76, 3) := by decide +kernel
theorem dX4_enterKite_47 : decode cX4_enterKite 47 = .ok (.iload 7, 2) := by decide +kernel
theorem dX4_enterKite_49 : decode cX4_enterKite 49 = .ok (.aload_n 0, 1) := by decide +kernel
theorem dX4_enterKite_50 : decode cX4_enterKite 50 = .ok (.getfield 12, 3) := by decide +kernel
theorem dX4_enterKite_53 : decode cX4_enterKite 53 = .ok (.iload_n 1, 1) := by decide +kernel
theorem dX4_enterKite_54 : decode cX4_enterKite 54 = .ok (.invokevirtual 79, 3) := by decide +kernel
theorem dX4_enterKite_57 : decode cX4_enterKite 57 = .ok (.iastore, 1) := by decide +kernel
theorem dX4_enterKite_58 : decode cX4_enterKite 58 = .ok (.aload_n 0, 1) := by decide +kernel
theorem dX4_enterKite_59 : decode cX4_enterKite 59 = .ok (.getfield 21, 3) := by decide +kernel
theorem dX4_enterKite_62 : decode cX4_enterKite 62 = .ok (.getfield 83, 3) := by decide +kernel
theorem dX4_enterKite_65 : decode cX4_enterKite 65 = .ok (.iload 7, 2) := by decide +kernel
theorem dX4_enterKite_67 : decode cX4_enterKite 67 = .ok (.iload_n 3, 1) := by decide +kernel
theorem dX4_enterKite_68 : decode cX4_enterKite 68 = .ok (.iastore, 1) := by decide +kernel
theorem dX4_enterKite_69 : decode cX4_enterKite 69 = .ok (.aload_n 0, 1) := by decide +kernel
theorem dX4_enterKite_70 : decode cX4_enterKite 70 = .ok (.getfield 21, 3) := by decide +kernel
theorem dX4_enterKite_73 : decode cX4_enterKite 73 = .ok (.getfield 86, 3) := by decide +kernel
theorem dX4_enterKite_76 : decode cX4_enterKite 76 = .ok (.iload 7, 2) := by decide +kernel
theorem dX4_enterKite_78 : decode cX4_enterKite 78 = .ok (.iload 4, 2) := by decide +kernel
theorem dX4_enterKite_80 : decode cX4_enterKite 80 = .ok (.iastore, 1) := by decide +kernel
theorem dX4_enterKite_81 : decode cX4_enterKite 81 = .ok (.aload_n 0, 1) := by decide +kernel
theorem dX4_enterKite_82 : decode cX4_enterKite 82 = .ok (.getfield 21, 3) := by decide +kernel
theorem dX4_enterKite_85 : decode cX4_enterKite 85 = .ok (.getfield 89, 3) := by decide +kernel
theorem dX4_enterKite_88 : decode cX4_enterKite 88 = .ok (.iload 7, 2) := by decide +kernel
theorem dX4_enterKite_90 : decode cX4_enterKite 90 = .ok (.iload 5, 2) := by decide +kernel
theorem dX4_enterKite_92 : decode cX4_enterKite 92 = .ok (.iastore, 1) := by decide +kernel
theorem dX4_enterKite_93 : decode cX4_enterKite 93 = .ok (.aload_n 0, 1) := by decide +kernel
theorem dX4_enterKite_94 : decode cX4_enterKite 94 = .ok (.getfield 21, 3) := by decide +kernel
theorem dX4_enterKite_97 : decode cX4_enterKite 97 = .ok (.getfield 92, 3) := by decide +kernel
theorem dX4_enterKite_100 : decode cX4_enterKite 100 = .ok (.iload 7, 2) := by decide +kernel
theorem dX4_enterKite_102 : decode cX4_enterKite 102 = .ok (.iload 6, 2) := by decide +kernel
theorem dX4_enterKite_104 : decode cX4_enterKite 104 = .ok (.iastore, 1) := by decide +kernel
theorem dX4_enterKite_105 : decode cX4_enterKite 105 = .ok (.aload_n 0, 1) := by decide +kernel
theorem dX4_enterKite_106 : decode cX4_enterKite 106 = .ok (.getfield 21, 3) := by decide +kernel
theorem dX4_enterKite_109 : decode cX4_enterKite 109 = .ok (.getfield 95, 3) := by decide +kernel
theorem dX4_enterKite_112 : decode cX4_enterKite 112 = .ok (.iload 7, 2) := by decide +kernel
theorem dX4_enterKite_114 : decode cX4_enterKite 114 = .ok (.iconst 0, 1) := by decide +kernel
theorem dX4_enterKite_115 : decode cX4_enterKite 115 = .ok (.iastore, 1) := by decide +kernel
theorem dX4_enterKite_116 : decode cX4_enterKite 116 = .ok (.aload_n 0, 1) := by decide +kernel
theorem dX4_enterKite_117 : decode cX4_enterKite 117 = .ok (.getfield 21, 3) := by decide +kernel
theorem dX4_enterKite_120 : decode cX4_enterKite 120 = .ok (.getfield 98, 3) := by decide +kernel
theorem dX4_enterKite_123 : decode cX4_enterKite 123 = .ok (.iload 7, 2) := by decide +kernel
theorem dX4_enterKite_125 : decode cX4_enterKite 125 = .ok (.iconst 0, 1) := by decide +kernel
theorem dX4_enterKite_126 : decode cX4_enterKite 126 = .ok (.iastore, 1) := by decide +kernel
theorem dX4_enterKite_127 : decode cX4_enterKite 127 = .ok (.aload_n 0, 1) := by decide +kernel
theorem dX4_enterKite_128 : decode cX4_enterKite 128 = .ok (.getfield 21, 3) := by decide +kernel
theorem dX4_enterKite_131 : decode cX4_enterKite 131 = .ok (.getfield 101, 3) := by decide +kernel
theorem dX4_enterKite_134 : decode cX4_enterKite 134 = .ok (.iload 7, 2) := by decide +kernel
theorem dX4_enterKite_136 : decode cX4_enterKite 136 = .ok (.iconst 0, 1) := by decide +kernel
theorem dX4_enterKite_137 : decode cX4_enterKite 137 = .ok (.iastore, 1) := by decide +kernel
theorem dX4_enterKite_138 : decode cX4_enterKite 138 = .ok (.aload_n 0, 1) := by decide +kernel
theorem dX4_enterKite_139 : decode cX4_enterKite 139 = .ok (.getfield 21, 3) := by decide +kernel
theorem dX4_enterKite_142 : decode cX4_enterKite 142 = .ok (.dup, 1) := by decide +kernel
theorem dX4_enterKite_143 : decode cX4_enterKite 143 = .ok (.getfield 62, 3) := by decide +kernel
theorem dX4_enterKite_146 : decode cX4_enterKite 146 = .ok (.iconst 1, 1) := by decide +kernel
theorem dX4_enterKite_147 : decode cX4_enterKite 147 = .ok (.iadd, 1) := by decide +kernel
theorem dX4_enterKite_148 : decode cX4_enterKite 148 = .ok (.putfield 62, 3) := by decide +kernel
theorem dX4_enterKite_151 : decode cX4_enterKite 151 = .ok (.aload_n 0, 1) := by decide +kernel
theorem dX4_enterKite_152 : decode cX4_enterKite 152 = .ok (.dup, 1) := by decide +kernel
theorem dX4_enterKite_153 : decode cX4_enterKite 153 = .ok (.getfield 53, 3) := by decide +kernel
theorem dX4_enterKite_156 : decode cX4_enterKite 156 = .ok (.iload 6, 2) := by decide +kernel
theorem dX4_enterKite_158 : decode cX4_enterKite 158 = .ok (.iadd, 1) := by decide +kernel
theorem dX4_enterKite_159 : decode cX4_enterKite 159 = .ok (.putfield 53, 3) := by decide +kernel
theorem dX4_enterKite_162 : decode cX4_enterKite 162 = .ok (.iload 7, 2) := by decide +kernel
theorem dX4_enterKite_164 : decode cX4_enterKite 164 = .ok (.ireturn, 1) := by decide +kernel
theorem dX4_windAt_0 : decode cX4_windAt 0 = .ok (.aload_n 0, 1) := by decide +kernel
theorem dX4_windAt_1 : decode cX4_windAt 1 = .ok (.getfield 12, 3) := by decide +kernel
theorem dX4_windAt_4 : decode cX4_windAt 4 = .ok (.aload_n 0, 1) := by decide +kernel
theorem dX4_windAt_5 : decode cX4_windAt 5 = .ok (.getfield 21, 3) := by decide +kernel
theorem dX4_windAt_8 : decode cX4_windAt 8 = .ok (.getfield 76, 3) := by decide +kernel
theorem dX4_windAt_11 : decode cX4_windAt 11 = .ok (.iload_n 1, 1) := by decide +kernel
theorem dX4_windAt_12 : decode cX4_windAt 12 = .ok (.iaload, 1) := by decide +kernel
theorem dX4_windAt_13 : decode cX4_windAt 13 = .ok (.iload_n 2, 1) := by decide +kernel
theorem dX4_windAt_14 : decode cX4_windAt 14 = .ok (.invokevirtual 104, 3) := by decide +kernel
theorem dX4_windAt_17 : decode cX4_windAt 17 = .ok (.ireturn, 1) := by decide +kernel
theorem dX4_reachIn_0 : decode cX4_reachIn 0 = .ok (.aload_n 0, 1) := by decide +kernel
theorem dX4_reachIn_1 : decode cX4_reachIn 1 = .ok (.getfield 12, 3) := by decide +kernel
theorem dX4_reachIn_4 : decode cX4_reachIn 4 = .ok (.getfield 108, 3) := by decide +kernel
theorem dX4_reachIn_7 : decode cX4_reachIn 7 = .ok (.iload_n 3, 1) := by decide +kernel
theorem dX4_reachIn_8 : decode cX4_reachIn 8 = .ok (.iaload, 1) := by decide +kernel
theorem dX4_reachIn_9 : decode cX4_reachIn 9 = .ok (.iload_n 2, 1) := by decide +kernel
theorem dX4_reachIn_10 : decode cX4_reachIn 10 = .ok (.isub, 1) := by decide +kernel
theorem dX4_reachIn_11 : decode cX4_reachIn 11 = .ok (.istore 4, 2) := by decide +kernel
theorem dX4_reachIn_13 : decode cX4_reachIn 13 = .ok (.iload 4, 2) := by decide +kernel
theorem dX4_reachIn_15 : decode cX4_reachIn 15 = .ok (.iconst 1, 1) := by decide +kernel
theorem dX4_reachIn_16 : decode cX4_reachIn 16 = .ok (.if_icmp .ge 5, 3) := by decide +kernel
theorem dX4_reachIn_19 : decode cX4_reachIn 19 = .ok (.iconst 0, 1) := by decide +kernel
theorem dX4_reachIn_20 : decode cX4_reachIn 20 = .ok (.ireturn, 1) := by decide +kernel
theorem dX4_reachIn_21 : decode cX4_reachIn 21 = .ok (.aload_n 0, 1) := by decide +kernel
theorem dX4_reachIn_22 : decode cX4_reachIn 22 = .ok (.getfield 21, 3) := by decide +kernel
theorem dX4_reachIn_25 : decode cX4_reachIn 25 = .ok (.getfield 83, 3) := by decide +kernel
theorem dX4_reachIn_28 : decode cX4_reachIn 28 = .ok (.iload_n 1, 1) := by decide +kernel
theorem dX4_reachIn_29 : decode cX4_reachIn 29 = .ok (.iaload, 1) := by decide +kernel
theorem dX4_reachIn_30 : decode cX4_reachIn 30 = .ok (.iload 4, 2) := by decide +kernel
theorem dX4_reachIn_32 : decode cX4_reachIn 32 = .ok (.iconst 5, 1) := by decide +kernel
theorem dX4_reachIn_33 : decode cX4_reachIn 33 = .ok (.invokestatic 111, 3) := by decide +kernel
theorem dX4_reachIn_36 : decode cX4_reachIn 36 = .ok (.imul, 1) := by decide +kernel
theorem dX4_reachIn_37 : decode cX4_reachIn 37 = .ok (.iconst 5, 1) := by decide +kernel
theorem dX4_reachIn_38 : decode cX4_reachIn 38 = .ok (.idiv, 1) := by decide +kernel
theorem dX4_reachIn_39 : decode cX4_reachIn 39 = .ok (.ireturn, 1) := by decide +kernel
theorem dX4_endXIn_0 : decode cX4_endXIn 0 = .ok (.aload_n 0, 1) := by decide +kernel
theorem dX4_endXIn_1 : decode cX4_endXIn 1 = .ok (.getfield 21, 3) := by decide +kernel
theorem dX4_endXIn_4 : decode cX4_endXIn 4 = .ok (.getfield 69, 3) := by decide +kernel
theorem dX4_endXIn_7 : decode cX4_endXIn 7 = .ok (.iload_n 1, 1) := by decide +kernel
theorem dX4_endXIn_8 : decode cX4_endXIn 8 = .ok (.iaload, 1) := by decide +kernel
theorem dX4_endXIn_9 : decode cX4_endXIn 9 = .ok (.iload_n 2, 1) := by decide +kernel
theorem dX4_endXIn_10 : decode cX4_endXIn 10 = .ok (.getstatic 116, 3) := by decide +kernel
theorem dX4_endXIn_13 : decode cX4_endXIn 13 = .ok (.aload_n 0, 1) := by decide +kernel
theorem dX4_endXIn_14 : decode cX4_endXIn 14 = .ok (.getfield 12, 3) := by decide +kernel
theorem dX4_endXIn_17 : decode cX4_endXIn 17 = .ok (.getfield 119, 3) := by decide +kernel
theorem dX4_endXIn_20 : decode cX4_endXIn 20 = .ok (.iload_n 3, 1) := by decide +kernel
theorem dX4_endXIn_21 : decode cX4_endXIn 21 = .ok (.iaload, 1) := by decide +kernel
theorem dX4_endXIn_22 : decode cX4_endXIn 22 = .ok (.iaload, 1) := by decide +kernel
theorem dX4_endXIn_23 : decode cX4_endXIn 23 = .ok (.imul, 1) := by decide +kernel
theorem dX4_endXIn_24 : decode cX4_endXIn 24 = .ok (.iadd, 1) := by decide +kernel
theorem dX4_endXIn_25 : decode cX4_endXIn 25 = .ok (.ireturn, 1) := by decide +kernel
theorem dX4_endYIn_0 : decode cX4_endYIn 0 = .ok (.aload_n 0, 1) := by decide +kernel
theorem dX4_endYIn_1 : decode cX4_endYIn 1 = .ok (.getfield 21, 3) := by decide +kernel
theorem dX4_endYIn_4 : decode cX4_endYIn 4 = .ok (.getfield 73, 3) := by decide +kernel
theorem dX4_endYIn_7 : decode cX4_endYIn 7 = .ok (.iload_n 1, 1) := by decide +kernel
theorem dX4_endYIn_8 : decode cX4_endYIn 8 = .ok (.iaload, 1) := by decide +kernel
theorem dX4_endYIn_9 : decode cX4_endYIn 9 = .ok (.iload_n 2, 1) := by decide +kernel
theorem dX4_endYIn_10 : decode cX4_endYIn 10 = .ok (.getstatic 122, 3) := by decide +kernel
theorem dX4_endYIn_13 : decode cX4_endYIn 13 = .ok (.aload_n 0, 1) := by decide +kernel
theorem dX4_endYIn_14 : decode cX4_endYIn 14 = .ok (.getfield 12, 3) := by decide +kernel
theorem dX4_endYIn_17 : decode cX4_endYIn 17 = .ok (.getfield 119, 3) := by decide +kernel
theorem dX4_endYIn_20 : decode cX4_endYIn 20 = .ok (.iload_n 3, 1) := by decide +kernel
theorem dX4_endYIn_21 : decode cX4_endYIn 21 = .ok (.iaload, 1) := by decide +kernel
theorem dX4_endYIn_22 : decode cX4_endYIn 22 = .ok (.iaload, 1) := by decide +kernel
theorem dX4_endYIn_23 : decode cX4_endYIn 23 = .ok (.imul, 1) := by decide +kernel
theorem dX4_endYIn_24 : decode cX4_endYIn 24 = .ok (.iadd, 1) := by decide +kernel
theorem dX4_endYIn_25 : decode cX4_endYIn 25 = .ok (.ireturn, 1) := by decide +kernel
theorem dX4_fliesIn_0 : decode cX4_fliesIn 0 = .ok (.iload_n 2, 1) := by decide +kernel
theorem dX4_fliesIn_1 : decode cX4_fliesIn 1 = .ok (.iconst 1, 1) := by decide +kernel
theorem dX4_fliesIn_2 : decode cX4_fliesIn 2 = .ok (.if_icmp .lt 31, 3) := by decide +kernel
theorem dX4_fliesIn_5 : decode cX4_fliesIn 5 = .ok (.aload_n 0, 1) := by decide +kernel
theorem dX4_fliesIn_6 : decode cX4_fliesIn 6 = .ok (.getfield 12, 3) := by decide +kernel
theorem dX4_fliesIn_9 : decode cX4_fliesIn 9 = .ok (.aload_n 0, 1) := by decide +kernel
theorem dX4_fliesIn_10 : decode cX4_fliesIn 10 = .ok (.iload_n 1, 1) := by decide +kernel
theorem dX4_fliesIn_11 : decode cX4_fliesIn 11 = .ok (.iload_n 2, 1) := by decide +kernel
theorem dX4_fliesIn_12 : decode cX4_fliesIn 12 = .ok (.iload_n 3, 1) := by decide +kernel
theorem dX4_fliesIn_13 : decode cX4_fliesIn 13 = .ok (.invokevirtual 125, 3) := by decide +kernel
theorem dX4_fliesIn_16 : decode cX4_fliesIn 16 = .ok (.aload_n 0, 1) := by decide +kernel
theorem dX4_fliesIn_17 : decode cX4_fliesIn 17 = .ok (.iload_n 1, 1) := by decide +kernel
theorem dX4_fliesIn_18 : decode cX4_fliesIn 18 = .ok (.iload_n 2, 1) := by decide +kernel
theorem dX4_fliesIn_19 : decode cX4_fliesIn 19 = .ok (.iload_n 3, 1) := by decide +kernel
theorem dX4_fliesIn_20 : decode cX4_fliesIn 20 = .ok (.invokevirtual 129, 3) := by decide +kernel
theorem dX4_fliesIn_23 : decode cX4_fliesIn 23 = .ok (.invokevirtual 132, 3) := by decide +kernel
theorem dX4_fliesIn_26 : decode cX4_fliesIn 26 = .ok (.ifCond .eq 7, 3) := by decide +kernel
theorem dX4_fliesIn_29 : decode cX4_fliesIn 29 = .ok (.iconst 1, 1) := by decide +kernel
theorem dX4_fliesIn_30 : decode cX4_fliesIn 30 = .ok (.goto 4, 3) := by decide +kernel
theorem dX4_fliesIn_33 : decode cX4_fliesIn 33 = .ok (.iconst 0, 1) := by decide +kernel
theorem dX4_fliesIn_34 : decode cX4_fliesIn 34 = .ok (.ireturn, 1) := by decide +kernel
theorem dX4_reachAt_0 : decode cX4_reachAt 0 = .ok (.aload_n 0, 1) := by decide +kernel
theorem dX4_reachAt_1 : decode cX4_reachAt 1 = .ok (.iload_n 1, 1) := by decide +kernel
theorem dX4_reachAt_2 : decode cX4_reachAt 2 = .ok (.aload_n 0, 1) := by decide +kernel
theorem dX4_reachAt_3 : decode cX4_reachAt 3 = .ok (.getfield 21, 3) := by decide +kernel
theorem dX4_reachAt_6 : decode cX4_reachAt 6 = .ok (.getfield 89, 3) := by decide +kernel
theorem dX4_reachAt_9 : decode cX4_reachAt 9 = .ok (.iload_n 1, 1) := by decide +kernel
theorem dX4_reachAt_10 : decode cX4_reachAt 10 = .ok (.iaload, 1) := by decide +kernel
theorem dX4_reachAt_11 : decode cX4_reachAt 11 = .ok (.aload_n 0, 1) := by decide +kernel
theorem dX4_reachAt_12 : decode cX4_reachAt 12 = .ok (.iload_n 1, 1) := by decide +kernel
theorem dX4_reachAt_13 : decode cX4_reachAt 13 = .ok (.iload_n 2, 1) := by decide +kernel
theorem dX4_reachAt_14 : decode cX4_reachAt 14 = .ok (.invokevirtual 136, 3) := by decide +kernel
theorem dX4_reachAt_17 : decode cX4_reachAt 17 = .ok (.invokevirtual 139, 3) := by decide +kernel
theorem dX4_reachAt_20 : decode cX4_reachAt 20 = .ok (.ireturn, 1) := by decide +kernel
theorem dX4_fliesAt_0 : decode cX4_fliesAt 0 = .ok (.aload_n 0, 1) := by decide +kernel
theorem dX4_fliesAt_1 : decode cX4_fliesAt 1 = .ok (.iload_n 1, 1) := by decide +kernel
theorem dX4_fliesAt_2 : decode cX4_fliesAt 2 = .ok (.iload_n 2, 1) := by decide +kernel
theorem dX4_fliesAt_3 : decode cX4_fliesAt 3 = .ok (.invokevirtual 136, 3) := by decide +kernel
theorem dX4_fliesAt_6 : decode cX4_fliesAt 6 = .ok (.istore_n 3, 1) := by decide +kernel
theorem dX4_fliesAt_7 : decode cX4_fliesAt 7 = .ok (.aload_n 0, 1) := by decide +kernel
theorem dX4_fliesAt_8 : decode cX4_fliesAt 8 = .ok (.iload_n 1, 1) := by decide +kernel
theorem dX4_fliesAt_9 : decode cX4_fliesAt 9 = .ok (.aload_n 0, 1) := by decide +kernel
theorem dX4_fliesAt_10 : decode cX4_fliesAt 10 = .ok (.iload_n 1, 1) := by decide +kernel
theorem dX4_fliesAt_11 : decode cX4_fliesAt 11 = .ok (.aload_n 0, 1) := by decide +kernel
theorem dX4_fliesAt_12 : decode cX4_fliesAt 12 = .ok (.getfield 21, 3) := by decide +kernel
theorem dX4_fliesAt_15 : decode cX4_fliesAt 15 = .ok (.getfield 89, 3) := by decide +kernel
theorem dX4_fliesAt_18 : decode cX4_fliesAt 18 = .ok (.iload_n 1, 1) := by decide +kernel
theorem dX4_fliesAt_19 : decode cX4_fliesAt 19 = .ok (.iaload, 1) := by decide +kernel
theorem dX4_fliesAt_20 : decode cX4_fliesAt 20 = .ok (.iload_n 3, 1) := by decide +kernel
theorem dX4_fliesAt_21 : decode cX4_fliesAt 21 = .ok (.invokevirtual 139, 3) := by decide +kernel
theorem dX4_fliesAt_24 : decode cX4_fliesAt 24 = .ok (.iload_n 3, 1) := by decide +kernel
theorem dX4_fliesAt_25 : decode cX4_fliesAt 25 = .ok (.invokevirtual 142, 3) := by decide +kernel
theorem dX4_fliesAt_28 : decode cX4_fliesAt 28 = .ok (.ireturn, 1) := by decide +kernel
theorem dX4_stringsCross_0 : decode cX4_stringsCross 0 = .ok (.aload_n 0, 1) := by decide +kernel
theorem dX4_stringsCross_1 : decode cX4_stringsCross 1 = .ok (.iload_n 1, 1) := by decide +kernel
theorem dX4_stringsCross_2 : decode cX4_stringsCross 2 = .ok (.iload_n 3, 1) := by decide +kernel
theorem dX4_stringsCross_3 : decode cX4_stringsCross 3 = .ok (.invokevirtual 136, 3) := by decide +kernel
theorem dX4_stringsCross_6 : decode cX4_stringsCross 6 = .ok (.istore 4, 2) := by decide +kernel
theorem dX4_stringsCross_8 : decode cX4_stringsCross 8 = .ok (.aload_n 0, 1) := by decide +kernel
theorem dX4_stringsCross_9 : decode cX4_stringsCross 9 = .ok (.iload_n 1, 1) := by decide +kernel
theorem dX4_stringsCross_10 : decode cX4_stringsCross 10 = .ok (.aload_n 0, 1) := by decide +kernel
theorem dX4_stringsCross_11 : decode cX4_stringsCross 11 = .ok (.getfield 21, 3) := by decide +kernel
theorem dX4_stringsCross_14 : decode cX4_stringsCross 14 = .ok (.getfield 89, 3) := by decide +kernel
theorem dX4_stringsCross_17 : decode cX4_stringsCross 17 = .ok (.iload_n 1, 1) := by decide +kernel
theorem dX4_stringsCross_18 : decode cX4_stringsCross 18 = .ok (.iaload, 1) := by decide +kernel
theorem dX4_stringsCross_19 : decode cX4_stringsCross 19 = .ok (.iload 4, 2) := by decide +kernel
theorem dX4_stringsCross_21 : decode cX4_stringsCross 21 = .ok (.invokevirtual 139, 3) := by decide +kernel
theorem dX4_stringsCross_24 : decode cX4_stringsCross 24 = .ok (.istore 5, 2) := by decide +kernel
theorem dX4_stringsCross_26 : decode cX4_stringsCross 26 = .ok (.aload_n 0, 1) := by decide +kernel
theorem dX4_stringsCross_27 : decode cX4_stringsCross 27 = .ok (.getfield 21, 3) := by decide +kernel
theorem dX4_stringsCross_30 : decode cX4_stringsCross 30 = .ok (.getfield 69, 3) := by decide +kernel
theorem dX4_stringsCross_33 : decode cX4_stringsCross 33 = .ok (.iload_n 1, 1) := by decide +kernel
theorem dX4_stringsCross_34 : decode cX4_stringsCross 34 = .ok (.iaload, 1) := by decide +kernel
theorem dX4_stringsCross_35 : decode cX4_stringsCross 35 = .ok (.istore 6, 2) := by decide +kernel
theorem dX4_stringsCross_37 : decode cX4_stringsCross 37 = .ok (.aload_n 0, 1) := by decide +kernel
theorem dX4_stringsCross_38 : decode cX4_stringsCross 38 = .ok (.getfield 21, 3) := by decide +kernel
theorem dX4_stringsCross_41 : decode cX4_stringsCross 41 = .ok (.getfield 73, 3) := by decide +kernel
theorem dX4_stringsCross_44 : decode cX4_stringsCross 44 = .ok (.iload_n 1, 1) := by decide +kernel
theorem dX4_stringsCross_45 : decode cX4_stringsCross 45 = .ok (.iaload, 1) := by decide +kernel
theorem dX4_stringsCross_46 : decode cX4_stringsCross 46 = .ok (.istore 7, 2) := by decide +kernel
theorem dX4_stringsCross_48 : decode cX4_stringsCross 48 = .ok (.aload_n 0, 1) := by decide +kernel
theorem dX4_stringsCross_49 : decode cX4_stringsCross 49 = .ok (.iload_n 1, 1) := by decide +kernel
theorem dX4_stringsCross_50 : decode cX4_stringsCross 50 = .ok (.iload 5, 2) := by decide +kernel
theorem dX4_stringsCross_52 : decode cX4_stringsCross 52 = .ok (.iload 4, 2) := by decide +kernel
theorem dX4_stringsCross_54 : decode cX4_stringsCross 54 = .ok (.invokevirtual 125, 3) := by decide +kernel
theorem dX4_stringsCross_57 : decode cX4_stringsCross 57 = .ok (.istore 8, 2) := by decide +kernel
theorem dX4_stringsCross_59 : decode cX4_stringsCross 59 = .ok (.aload_n 0, 1) := by decide +kernel
theorem dX4_stringsCross_60 : decode cX4_stringsCross 60 = .ok (.iload_n 1, 1) := by decide +kernel
theorem dX4_stringsCross_61 : decode cX4_stringsCross 61 = .ok (.iload 5, 2) := by decide +kernel
theorem dX4_stringsCross_63 : decode cX4_stringsCross 63 = .ok (.iload 4, 2) := by decide +kernel
theorem dX4_stringsCross_65 : decode cX4_stringsCross 65 = .ok (.invokevirtual 129, 3) := by decide +kernel
theorem dX4_stringsCross_68 : decode cX4_stringsCross 68 = .ok (.istore 9, 2) := by decide +kernel
theorem dX4_stringsCross_70 : decode cX4_stringsCross 70 = .ok (.aload_n 0, 1) := by decide +kernel
theorem dX4_stringsCross_71 : decode cX4_stringsCross 71 = .ok (.iload_n 2, 1) := by decide +kernel
theorem dX4_stringsCross_72 : decode cX4_stringsCross 72 = .ok (.iload_n 3, 1) := by decide +kernel
theorem dX4_stringsCross_73 : decode cX4_stringsCross 73 = .ok (.invokevirtual 136, 3) := by decide +kernel
theorem dX4_stringsCross_76 : decode cX4_stringsCross 76 = .ok (.istore 10, 2) := by decide +kernel
theorem dX4_stringsCross_78 : decode cX4_stringsCross 78 = .ok (.aload_n 0, 1) := by decide +kernel
theorem dX4_stringsCross_79 : decode cX4_stringsCross 79 = .ok (.iload_n 2, 1) := by decide +kernel
theorem dX4_stringsCross_80 : decode cX4_stringsCross 80 = .ok (.aload_n 0, 1) := by decide +kernel
theorem dX4_stringsCross_81 : decode cX4_stringsCross 81 = .ok (.getfield 21, 3) := by decide +kernel
theorem dX4_stringsCross_84 : decode cX4_stringsCross 84 = .ok (.getfield 89, 3) := by decide +kernel
theorem dX4_stringsCross_87 : decode cX4_stringsCross 87 = .ok (.iload_n 2, 1) := by decide +kernel
theorem dX4_stringsCross_88 : decode cX4_stringsCross 88 = .ok (.iaload, 1) := by decide +kernel
theorem dX4_stringsCross_89 : decode cX4_stringsCross 89 = .ok (.iload 10, 2) := by decide +kernel
theorem dX4_stringsCross_91 : decode cX4_stringsCross 91 = .ok (.invokevirtual 139, 3) := by decide +kernel
theorem dX4_stringsCross_94 : decode cX4_stringsCross 94 = .ok (.istore 11, 2) := by decide +kernel
theorem dX4_stringsCross_96 : decode cX4_stringsCross 96 = .ok (.aload_n 0, 1) := by decide +kernel
theorem dX4_stringsCross_97 : decode cX4_stringsCross 97 = .ok (.getfield 21, 3) := by decide +kernel
theorem dX4_stringsCross_100 : decode cX4_stringsCross 100 = .ok (.getfield 69, 3) := by decide +kernel
theorem dX4_stringsCross_103 : decode cX4_stringsCross 103 = .ok (.iload_n 2, 1) := by decide +kernel
theorem dX4_stringsCross_104 : decode cX4_stringsCross 104 = .ok (.iaload, 1) := by decide +kernel
theorem dX4_stringsCross_105 : decode cX4_stringsCross 105 = .ok (.istore 12, 2) := by decide +kernel
theorem dX4_stringsCross_107 : decode cX4_stringsCross 107 = .ok (.aload_n 0, 1) := by decide +kernel
theorem dX4_stringsCross_108 : decode cX4_stringsCross 108 = .ok (.getfield 21, 3) := by decide +kernel
theorem dX4_stringsCross_111 : decode cX4_stringsCross 111 = .ok (.getfield 73, 3) := by decide +kernel
theorem dX4_stringsCross_114 : decode cX4_stringsCross 114 = .ok (.iload_n 2, 1) := by decide +kernel
theorem dX4_stringsCross_115 : decode cX4_stringsCross 115 = .ok (.iaload, 1) := by decide +kernel
theorem dX4_stringsCross_116 : decode cX4_stringsCross 116 = .ok (.istore 13, 2) := by decide +kernel
theorem dX4_stringsCross_118 : decode cX4_stringsCross 118 = .ok (.aload_n 0, 1) := by decide +kernel
theorem dX4_stringsCross_119 : decode cX4_stringsCross 119 = .ok (.iload_n 2, 1) := by decide +kernel
theorem dX4_stringsCross_120 : decode cX4_stringsCross 120 = .ok (.iload 11, 2) := by decide +kernel
theorem dX4_stringsCross_122 : decode cX4_stringsCross 122 = .ok (.iload 10, 2) := by decide +kernel
theorem dX4_stringsCross_124 : decode cX4_stringsCross 124 = .ok (.invokevirtual 125, 3) := by decide +kernel
theorem dX4_stringsCross_127 : decode cX4_stringsCross 127 = .ok (.istore 14, 2) := by decide +kernel
theorem dX4_stringsCross_129 : decode cX4_stringsCross 129 = .ok (.aload_n 0, 1) := by decide +kernel
theorem dX4_stringsCross_130 : decode cX4_stringsCross 130 = .ok (.iload_n 2, 1) := by decide +kernel
theorem dX4_stringsCross_131 : decode cX4_stringsCross 131 = .ok (.iload 11, 2) := by decide +kernel
theorem dX4_stringsCross_133 : decode cX4_stringsCross 133 = .ok (.iload 10, 2) := by decide +kernel
theorem dX4_stringsCross_135 : decode cX4_stringsCross 135 = .ok (.invokevirtual 129, 3) := by decide +kernel
theorem dX4_stringsCross_138 : decode cX4_stringsCross 138 = .ok (.istore 15, 2) := by decide +kernel
theorem dX4_stringsCross_140 : decode cX4_stringsCross 140 = .ok (.iload 6, 2) := by decide +kernel
theorem dX4_stringsCross_142 : decode cX4_stringsCross 142 = .ok (.iload 8, 2) := by decide +kernel
theorem dX4_stringsCross_144 : decode cX4_stringsCross 144 = .ok (.iload 12, 2) := by decide +kernel
theorem dX4_stringsCross_146 : decode cX4_stringsCross 146 = .ok (.iload 14, 2) := by decide +kernel
theorem dX4_stringsCross_148 : decode cX4_stringsCross 148 = .ok (.invokestatic 146, 3) := by decide +kernel
theorem dX4_stringsCross_151 : decode cX4_stringsCross 151 = .ok (.ifCond .eq 17, 3) := by decide +kernel
theorem dX4_stringsCross_154 : decode cX4_stringsCross 154 = .ok (.iload 7, 2) := by decide +kernel
theorem dX4_stringsCross_156 : decode cX4_stringsCross 156 = .ok (.iload 9, 2) := by decide +kernel
theorem dX4_stringsCross_158 : decode cX4_stringsCross 158 = .ok (.iload 13, 2) := by decide +kernel
theorem dX4_stringsCross_160 : decode cX4_stringsCross 160 = .ok (.iload 15, 2) := by decide +kernel
theorem dX4_stringsCross_162 : decode cX4_stringsCross 162 = .ok (.invokestatic 146, 3) := by decide +kernel
theorem dX4_stringsCross_165 : decode cX4_stringsCross 165 = .ok (.ifCond .ne 5, 3) := by decide +kernel
theorem dX4_stringsCross_168 : decode cX4_stringsCross 168 = .ok (.iconst 0, 1) := by decide +kernel
theorem dX4_stringsCross_169 : decode cX4_stringsCross 169 = .ok (.ireturn, 1) := by decide +kernel
theorem dX4_stringsCross_170 : decode cX4_stringsCross 170 = .ok (.iload 6, 2) := by decide +kernel
theorem dX4_stringsCross_172 : decode cX4_stringsCross 172 = .ok (.iload 7, 2) := by decide +kernel
theorem dX4_stringsCross_174 : decode cX4_stringsCross 174 = .ok (.iload 8, 2) := by decide +kernel
theorem dX4_stringsCross_176 : decode cX4_stringsCross 176 = .ok (.iload 9, 2) := by decide +kernel
theorem dX4_stringsCross_178 : decode cX4_stringsCross 178 = .ok (.iload 12, 2) := by decide +kernel
theorem dX4_stringsCross_180 : decode cX4_stringsCross 180 = .ok (.iload 13, 2) := by decide +kernel
theorem dX4_stringsCross_182 : decode cX4_stringsCross 182 = .ok (.invokestatic 150, 3) := by decide +kernel
theorem dX4_stringsCross_185 : decode cX4_stringsCross 185 = .ok (.iload 6, 2) := by decide +kernel
theorem dX4_stringsCross_187 : decode cX4_stringsCross 187 = .ok (.iload 7, 2) := by decide +kernel
theorem dX4_stringsCross_189 : decode cX4_stringsCross 189 = .ok (.iload 8, 2) := by decide +kernel
theorem dX4_stringsCross_191 : decode cX4_stringsCross 191 = .ok (.iload 9, 2) := by decide +kernel
theorem dX4_stringsCross_193 : decode cX4_stringsCross 193 = .ok (.iload 14, 2) := by decide +kernel
theorem dX4_stringsCross_195 : decode cX4_stringsCross 195 = .ok (.iload 15, 2) := by decide +kernel
theorem dX4_stringsCross_197 : decode cX4_stringsCross 197 = .ok (.invokestatic 150, 3) := by decide +kernel
theorem dX4_stringsCross_200 : decode cX4_stringsCross 200 = .ok (.invokestatic 154, 3) := by decide +kernel
theorem dX4_stringsCross_203 : decode cX4_stringsCross 203 = .ok (.ifCond .ne 43, 3) := by decide +kernel
theorem dX4_stringsCross_206 : decode cX4_stringsCross 206 = .ok (.iload 12, 2) := by decide +kernel
theorem dX4_stringsCross_208 : decode cX4_stringsCross 208 = .ok (.iload 13, 2) := by decide +kernel
theorem dX4_stringsCross_210 : decode cX4_stringsCross 210 = .ok (.iload 14, 2) := by decide +kernel
theorem dX4_stringsCross_212 : decode cX4_stringsCross 212 = .ok (.iload 15, 2) := by decide +kernel
theorem dX4_stringsCross_214 : decode cX4_stringsCross 214 = .ok (.iload 6, 2) := by decide +kernel
theorem dX4_stringsCross_216 : decode cX4_stringsCross 216 = .ok (.iload 7, 2) := by decide +kernel
theorem dX4_stringsCross_218 : decode cX4_stringsCross 218 = .ok (.invokestatic 150, 3) := by decide +kernel
theorem dX4_stringsCross_221 : decode cX4_stringsCross 221 = .ok (.iload 12, 2) := by decide +kernel
theorem dX4_stringsCross_223 : decode cX4_stringsCross 223 = .ok (.iload 13, 2) := by decide +kernel
theorem dX4_stringsCross_225 : decode cX4_stringsCross 225 = .ok (.iload 14, 2) := by decide +kernel
theorem dX4_stringsCross_227 : decode cX4_stringsCross 227 = .ok (.iload 15, 2) := by decide +kernel
theorem dX4_stringsCross_229 : decode cX4_stringsCross 229 = .ok (.iload 8, 2) := by decide +kernel
theorem dX4_stringsCross_231 : decode cX4_stringsCross 231 = .ok (.iload 9, 2) := by decide +kernel
theorem dX4_stringsCross_233 : decode cX4_stringsCross 233 = .ok (.invokestatic 150, 3) := by decide +kernel
theorem dX4_stringsCross_236 : decode cX4_stringsCross 236 = .ok (.invokestatic 154, 3) := by decide +kernel
theorem dX4_stringsCross_239 : decode cX4_stringsCross 239 = .ok (.ifCond .ne 7, 3) := by decide +kernel
theorem dX4_stringsCross_242 : decode cX4_stringsCross 242 = .ok (.iconst 1, 1) := by decide +kernel
theorem dX4_stringsCross_243 : decode cX4_stringsCross 243 = .ok (.goto 4, 3) := by decide +kernel
theorem dX4_stringsCross_246 : decode cX4_stringsCross 246 = .ok (.iconst 0, 1) := by decide +kernel
theorem dX4_stringsCross_247 : decode cX4_stringsCross 247 = .ok (.ireturn, 1) := by decide +kernel
theorem dX4_rangesMeet_0 : decode cX4_rangesMeet 0 = .ok (.iload_n 0, 1) := by decide +kernel
theorem dX4_rangesMeet_1 : decode cX4_rangesMeet 1 = .ok (.iload_n 1, 1) := by decide +kernel
theorem dX4_rangesMeet_2 : decode cX4_rangesMeet 2 = .ok (.invokestatic 111, 3) := by decide +kernel
theorem dX4_rangesMeet_5 : decode cX4_rangesMeet 5 = .ok (.iload_n 2, 1) := by decide +kernel
theorem dX4_rangesMeet_6 : decode cX4_rangesMeet 6 = .ok (.iload_n 3, 1) := by decide +kernel
theorem dX4_rangesMeet_7 : decode cX4_rangesMeet 7 = .ok (.invokestatic 157, 3) := by decide +kernel
theorem dX4_rangesMeet_10 : decode cX4_rangesMeet 10 = .ok (.if_icmp .gt 20, 3) := by decide +kernel
theorem dX4_rangesMeet_13 : decode cX4_rangesMeet 13 = .ok (.iload_n 2, 1) := by decide +kernel
theorem dX4_rangesMeet_14 : decode cX4_rangesMeet 14 = .ok (.iload_n 3, 1) := by decide +kernel
theorem dX4_rangesMeet_15 : decode cX4_rangesMeet 15 = .ok (.invokestatic 111, 3) := by decide +kernel
theorem dX4_rangesMeet_18 : decode cX4_rangesMeet 18 = .ok (.iload_n 0, 1) := by decide +kernel
theorem dX4_rangesMeet_19 : decode cX4_rangesMeet 19 = .ok (.iload_n 1, 1) := by decide +kernel
theorem dX4_rangesMeet_20 : decode cX4_rangesMeet 20 = .ok (.invokestatic 157, 3) := by decide +kernel
theorem dX4_rangesMeet_23 : decode cX4_rangesMeet 23 = .ok (.if_icmp .gt 7, 3) := by decide +kernel
theorem dX4_rangesMeet_26 : decode cX4_rangesMeet 26 = .ok (.iconst 1, 1) := by decide +kernel
theorem dX4_rangesMeet_27 : decode cX4_rangesMeet 27 = .ok (.goto 4, 3) := by decide +kernel
theorem dX4_rangesMeet_30 : decode cX4_rangesMeet 30 = .ok (.iconst 0, 1) := by decide +kernel
theorem dX4_rangesMeet_31 : decode cX4_rangesMeet 31 = .ok (.ireturn, 1) := by decide +kernel
theorem dX4_sideOf_0 : decode cX4_sideOf 0 = .ok (.iload_n 2, 1) := by decide +kernel
theorem dX4_sideOf_1 : decode cX4_sideOf 1 = .ok (.iload_n 0, 1) := by decide +kernel
theorem dX4_sideOf_2 : decode cX4_sideOf 2 = .ok (.isub, 1) := by decide +kernel
theorem dX4_sideOf_3 : decode cX4_sideOf 3 = .ok (.iload 5, 2) := by decide +kernel
theorem dX4_sideOf_5 : decode cX4_sideOf 5 = .ok (.iload_n 1, 1) := by decide +kernel
theorem dX4_sideOf_6 : decode cX4_sideOf 6 = .ok (.isub, 1) := by decide +kernel
theorem dX4_sideOf_7 : decode cX4_sideOf 7 = .ok (.imul, 1) := by decide +kernel
theorem dX4_sideOf_8 : decode cX4_sideOf 8 = .ok (.iload_n 3, 1) := by decide +kernel
theorem dX4_sideOf_9 : decode cX4_sideOf 9 = .ok (.iload_n 1, 1) := by decide +kernel
theorem dX4_sideOf_10 : decode cX4_sideOf 10 = .ok (.isub, 1) := by decide +kernel
theorem dX4_sideOf_11 : decode cX4_sideOf 11 = .ok (.iload 4, 2) := by decide +kernel
theorem dX4_sideOf_13 : decode cX4_sideOf 13 = .ok (.iload_n 0, 1) := by decide +kernel
theorem dX4_sideOf_14 : decode cX4_sideOf 14 = .ok (.isub, 1) := by decide +kernel
theorem dX4_sideOf_15 : decode cX4_sideOf 15 = .ok (.imul, 1) := by decide +kernel
theorem dX4_sideOf_16 : decode cX4_sideOf 16 = .ok (.isub, 1) := by decide +kernel
theorem dX4_sideOf_17 : decode cX4_sideOf 17 = .ok (.ireturn, 1) := by decide +kernel
theorem dX4_onOneSide_0 : decode cX4_onOneSide 0 = .ok (.iload_n 0, 1) := by decide +kernel
theorem dX4_onOneSide_1 : decode cX4_onOneSide 1 = .ok (.ifCond .le 7, 3) := by decide +kernel
theorem dX4_onOneSide_4 : decode cX4_onOneSide 4 = .ok (.iload_n 1, 1) := by decide +kernel
theorem dX4_onOneSide_5 : decode cX4_onOneSide 5 = .ok (.ifCond .gt 11, 3) := by decide +kernel
theorem dX4_onOneSide_8 : decode cX4_onOneSide 8 = .ok (.iload_n 0, 1) := by decide +kernel
theorem dX4_onOneSide_9 : decode cX4_onOneSide 9 = .ok (.ifCond .ge 11, 3) := by decide +kernel
theorem dX4_onOneSide_12 : decode cX4_onOneSide 12 = .ok (.iload_n 1, 1) := by decide +kernel
theorem dX4_onOneSide_13 : decode cX4_onOneSide 13 = .ok (.ifCond .ge 7, 3) := by decide +kernel
theorem dX4_onOneSide_16 : decode cX4_onOneSide 16 = .ok (.iconst 1, 1) := by decide +kernel
theorem dX4_onOneSide_17 : decode cX4_onOneSide 17 = .ok (.goto 4, 3) := by decide +kernel
theorem dX4_onOneSide_20 : decode cX4_onOneSide 20 = .ok (.iconst 0, 1) := by decide +kernel
theorem dX4_onOneSide_21 : decode cX4_onOneSide 21 = .ok (.ireturn, 1) := by decide +kernel
theorem dX4_countCovering_0 : decode cX4_countCovering 0 = .ok (.iconst 0, 1) := by decide +kernel
theorem dX4_countCovering_1 : decode cX4_countCovering 1 = .ok (.istore_n 3, 1) := by decide +kernel
theorem dX4_countCovering_2 : decode cX4_countCovering 2 = .ok (.iconst 0, 1) := by decide +kernel
theorem dX4_countCovering_3 : decode cX4_countCovering 3 = .ok (.istore 4, 2) := by decide +kernel
theorem dX4_countCovering_5 : decode cX4_countCovering 5 = .ok (.iload 4, 2) := by decide +kernel
theorem dX4_countCovering_7 : decode cX4_countCovering 7 = .ok (.aload_n 0, 1) := by decide +kernel
theorem dX4_countCovering_8 : decode cX4_countCovering 8 = .ok (.getfield 28, 3) := by decide +kernel
theorem dX4_countCovering_11 : decode cX4_countCovering 11 = .ok (.getfield 68, 3) := by decide +kernel
theorem dX4_countCovering_14 : decode cX4_countCovering 14 = .ok (.if_icmp .ge 47, 3) := by decide +kernel
theorem dX4_countCovering_17 : decode cX4_countCovering 17 = .ok (.aload_n 0, 1) := by decide +kernel
theorem dX4_countCovering_18 : decode cX4_countCovering 18 = .ok (.getfield 21, 3) := by decide +kernel
theorem dX4_countCovering_21 : decode cX4_countCovering 21 = .ok (.getfield 86, 3) := by decide +kernel
theorem dX4_countCovering_24 : decode cX4_countCovering 24 = .ok (.aload_n 0, 1) := by decide +kernel
theorem dX4_countCovering_25 : decode cX4_countCovering 25 = .ok (.getfield 28, 3) := by decide +kernel
theorem dX4_countCovering_28 : decode cX4_countCovering 28 = .ok (.getfield 160, 3) := by decide +kernel
theorem dX4_countCovering_31 : decode cX4_countCovering 31 = .ok (.iload 4, 2) := by decide +kernel
theorem dX4_countCovering_33 : decode cX4_countCovering 33 = .ok (.iaload, 1) := by decide +kernel
theorem dX4_countCovering_34 : decode cX4_countCovering 34 = .ok (.iaload, 1) := by decide +kernel
theorem dX4_countCovering_35 : decode cX4_countCovering 35 = .ok (.iload_n 1, 1) := by decide +kernel
theorem dX4_countCovering_36 : decode cX4_countCovering 36 = .ok (.if_icmp .ne 19, 3) := by decide +kernel
theorem dX4_countCovering_39 : decode cX4_countCovering 39 = .ok (.aload_n 0, 1) := by decide +kernel
theorem dX4_countCovering_40 : decode cX4_countCovering 40 = .ok (.getfield 28, 3) := by decide +kernel
theorem dX4_countCovering_43 : decode cX4_countCovering 43 = .ok (.iload 4, 2) := by decide +kernel
theorem dX4_countCovering_45 : decode cX4_countCovering 45 = .ok (.iload_n 2, 1) := by decide +kernel
theorem dX4_countCovering_46 : decode cX4_countCovering 46 = .ok (.invokevirtual 163, 3) := by decide +kernel
theorem dX4_countCovering_49 : decode cX4_countCovering 49 = .ok (.ifCond .eq 6, 3) := by decide +kernel
theorem dX4_countCovering_52 : decode cX4_countCovering 52 = .ok (.iinc 3 1, 3) := by decide +kernel
theorem dX4_countCovering_55 : decode cX4_countCovering 55 = .ok (.iinc 4 1, 3) := by decide +kernel
theorem dX4_countCovering_58 : decode cX4_countCovering 58 = .ok (.goto (-53), 3) := by decide +kernel
theorem dX4_countCovering_61 : decode cX4_countCovering 61 = .ok (.iload_n 3, 1) := by decide +kernel
theorem dX4_countCovering_62 : decode cX4_countCovering 62 = .ok (.ireturn, 1) := by decide +kernel
theorem dX4_refusalReason_0 : decode cX4_refusalReason 0 = .ok (.iload_n 2, 1) := by decide +kernel
theorem dX4_refusalReason_1 : decode cX4_refusalReason 1 = .ok (.iload_n 3, 1) := by decide +kernel
theorem dX4_refusalReason_2 : decode cX4_refusalReason 2 = .ok (.iadd, 1) := by decide +kernel
theorem dX4_refusalReason_3 : decode cX4_refusalReason 3 = .ok (.istore 4, 2) := by decide +kernel
theorem dX4_refusalReason_5 : decode cX4_refusalReason 5 = .ok (.iload_n 2, 1) := by decide +kernel
theorem dX4_refusalReason_6 : decode cX4_refusalReason 6 = .ok (.aload_n 0, 1) := by decide +kernel
theorem dX4_refusalReason_7 : decode cX4_refusalReason 7 = .ok (.getfield 46, 3) := by decide +kernel
theorem dX4_refusalReason_10 : decode cX4_refusalReason 10 = .ok (.if_icmp .ge 5, 3) := by decide +kernel
theorem dX4_refusalReason_13 : decode cX4_refusalReason 13 = .ok (.iconst 1, 1) := by decide +kernel
theorem dX4_refusalReason_14 : decode cX4_refusalReason 14 = .ok (.ireturn, 1) := by decide +kernel
theorem dX4_refusalReason_15 : decode cX4_refusalReason 15 = .ok (.aload_n 0, 1) := by decide +kernel
theorem dX4_refusalReason_16 : decode cX4_refusalReason 16 = .ok (.getfield 28, 3) := by decide +kernel
theorem dX4_refusalReason_19 : decode cX4_refusalReason 19 = .ok (.getfield 68, 3) := by decide +kernel
theorem dX4_refusalReason_22 : decode cX4_refusalReason 22 = .ok (.bipush 30, 2) := by decide +kernel
theorem dX4_refusalReason_24 : decode cX4_refusalReason 24 = .ok (.if_icmp .lt 5, 3) := by decide +kernel
theorem dX4_refusalReason_27 : decode cX4_refusalReason 27 = .ok (.iconst 2, 1) := by decide +kernel
theorem dX4_refusalReason_28 : decode cX4_refusalReason 28 = .ok (.ireturn, 1) := by decide +kernel
theorem dX4_refusalReason_29 : decode cX4_refusalReason 29 = .ok (.aload_n 0, 1) := by decide +kernel
theorem dX4_refusalReason_30 : decode cX4_refusalReason 30 = .ok (.getfield 28, 3) := by decide +kernel
theorem dX4_refusalReason_33 : decode cX4_refusalReason 33 = .ok (.iload_n 1, 1) := by decide +kernel
theorem dX4_refusalReason_34 : decode cX4_refusalReason 34 = .ok (.iload_n 2, 1) := by decide +kernel
theorem dX4_refusalReason_35 : decode cX4_refusalReason 35 = .ok (.iload 4, 2) := by decide +kernel
theorem dX4_refusalReason_37 : decode cX4_refusalReason 37 = .ok (.invokevirtual 166, 3) := by decide +kernel
theorem dX4_refusalReason_40 : decode cX4_refusalReason 40 = .ok (.ifCond .eq 5, 3) := by decide +kernel
theorem dX4_refusalReason_43 : decode cX4_refusalReason 43 = .ok (.iconst 3, 1) := by decide +kernel
theorem dX4_refusalReason_44 : decode cX4_refusalReason 44 = .ok (.ireturn, 1) := by decide +kernel
theorem dX4_refusalReason_45 : decode cX4_refusalReason 45 = .ok (.aload_n 0, 1) := by decide +kernel
theorem dX4_refusalReason_46 : decode cX4_refusalReason 46 = .ok (.aload_n 0, 1) := by decide +kernel
theorem dX4_refusalReason_47 : decode cX4_refusalReason 47 = .ok (.getfield 21, 3) := by decide +kernel
theorem dX4_refusalReason_50 : decode cX4_refusalReason 50 = .ok (.getfield 86, 3) := by decide +kernel
theorem dX4_refusalReason_53 : decode cX4_refusalReason 53 = .ok (.iload_n 1, 1) := by decide +kernel
theorem dX4_refusalReason_54 : decode cX4_refusalReason 54 = .ok (.iaload, 1) := by decide +kernel
theorem dX4_refusalReason_55 : decode cX4_refusalReason 55 = .ok (.iload_n 2, 1) := by decide +kernel
theorem dX4_refusalReason_56 : decode cX4_refusalReason 56 = .ok (.iload 4, 2) := by decide +kernel
theorem dX4_refusalReason_58 : decode cX4_refusalReason 58 = .ok (.invokevirtual 169, 3) := by decide +kernel
theorem dX4_refusalReason_61 : decode cX4_refusalReason 61 = .ok (.ifCond .eq 5, 3) := by decide +kernel
theorem dX4_refusalReason_64 : decode cX4_refusalReason 64 = .ok (.iconst 4, 1) := by decide +kernel
theorem dX4_refusalReason_65 : decode cX4_refusalReason 65 = .ok (.ireturn, 1) := by decide +kernel
theorem dX4_refusalReason_66 : decode cX4_refusalReason 66 = .ok (.aload_n 0, 1) := by decide +kernel
theorem dX4_refusalReason_67 : decode cX4_refusalReason 67 = .ok (.iload_n 1, 1) := by decide +kernel
theorem dX4_refusalReason_68 : decode cX4_refusalReason 68 = .ok (.iload_n 2, 1) := by decide +kernel
theorem dX4_refusalReason_69 : decode cX4_refusalReason 69 = .ok (.iload 4, 2) := by decide +kernel
theorem dX4_refusalReason_71 : decode cX4_refusalReason 71 = .ok (.invokevirtual 172, 3) := by decide +kernel
theorem dX4_refusalReason_74 : decode cX4_refusalReason 74 = .ok (.ifCond .ne 5, 3) := by decide +kernel
theorem dX4_refusalReason_77 : decode cX4_refusalReason 77 = .ok (.iconst 5, 1) := by decide +kernel
theorem dX4_refusalReason_78 : decode cX4_refusalReason 78 = .ok (.ireturn, 1) := by decide +kernel
theorem dX4_refusalReason_79 : decode cX4_refusalReason 79 = .ok (.aload_n 0, 1) := by decide +kernel
theorem dX4_refusalReason_80 : decode cX4_refusalReason 80 = .ok (.iload_n 1, 1) := by decide +kernel
theorem dX4_refusalReason_81 : decode cX4_refusalReason 81 = .ok (.iload_n 2, 1) := by decide +kernel
theorem dX4_refusalReason_82 : decode cX4_refusalReason 82 = .ok (.iload 4, 2) := by decide +kernel
theorem dX4_refusalReason_84 : decode cX4_refusalReason 84 = .ok (.invokevirtual 175, 3) := by decide +kernel
theorem dX4_refusalReason_87 : decode cX4_refusalReason 87 = .ok (.iconst (-1), 1) := by decide +kernel
theorem dX4_refusalReason_88 : decode cX4_refusalReason 88 = .ok (.if_icmp .eq 6, 3) := by decide +kernel
theorem dX4_refusalReason_91 : decode cX4_refusalReason 91 = .ok (.bipush 6, 2) := by decide +kernel
theorem dX4_refusalReason_93 : decode cX4_refusalReason 93 = .ok (.ireturn, 1) := by decide +kernel
theorem dX4_refusalReason_94 : decode cX4_refusalReason 94 = .ok (.aload_n 0, 1) := by decide +kernel
theorem dX4_refusalReason_95 : decode cX4_refusalReason 95 = .ok (.getfield 21, 3) := by decide +kernel
theorem dX4_refusalReason_98 : decode cX4_refusalReason 98 = .ok (.getfield 92, 3) := by decide +kernel
theorem dX4_refusalReason_101 : decode cX4_refusalReason 101 = .ok (.iload_n 1, 1) := by decide +kernel
theorem dX4_refusalReason_102 : decode cX4_refusalReason 102 = .ok (.iaload, 1) := by decide +kernel
theorem dX4_refusalReason_103 : decode cX4_refusalReason 103 = .ok (.aload_n 0, 1) := by decide +kernel
theorem dX4_refusalReason_104 : decode cX4_refusalReason 104 = .ok (.getfield 12, 3) := by decide +kernel
theorem dX4_refusalReason_107 : decode cX4_refusalReason 107 = .ok (.getfield 178, 3) := by decide +kernel
theorem dX4_refusalReason_110 : decode cX4_refusalReason 110 = .ok (.iload_n 3, 1) := by decide +kernel
theorem dX4_refusalReason_111 : decode cX4_refusalReason 111 = .ok (.imul, 1) := by decide +kernel
theorem dX4_refusalReason_112 : decode cX4_refusalReason 112 = .ok (.if_icmp .ge 8, 3) := by decide +kernel
theorem dX4_refusalReason_115 : decode cX4_refusalReason 115 = .ok (.bipush 7, 2) := by decide +kernel
theorem dX4_refusalReason_117 : decode cX4_refusalReason 117 = .ok (.goto 4, 3) := by decide +kernel
theorem dX4_refusalReason_120 : decode cX4_refusalReason 120 = .ok (.iconst 0, 1) := by decide +kernel
theorem dX4_refusalReason_121 : decode cX4_refusalReason 121 = .ok (.ireturn, 1) := by decide +kernel
theorem dX4_isQuotaUsedUp_0 : decode cX4_isQuotaUsedUp 0 = .ok (.iload_n 2, 1) := by decide +kernel
theorem dX4_isQuotaUsedUp_1 : decode cX4_isQuotaUsedUp 1 = .ok (.istore 4, 2) := by decide +kernel
theorem dX4_isQuotaUsedUp_3 : decode cX4_isQuotaUsedUp 3 = .ok (.iload 4, 2) := by decide +kernel
theorem dX4_isQuotaUsedUp_5 : decode cX4_isQuotaUsedUp 5 = .ok (.iload_n 3, 1) := by decide +kernel
theorem dX4_isQuotaUsedUp_6 : decode cX4_isQuotaUsedUp 6 = .ok (.if_icmp .ge 30, 3) := by decide +kernel
theorem dX4_isQuotaUsedUp_9 : decode cX4_isQuotaUsedUp 9 = .ok (.aload_n 0, 1) := by decide +kernel
theorem dX4_isQuotaUsedUp_10 : decode cX4_isQuotaUsedUp 10 = .ok (.iload_n 1, 1) := by decide +kernel
theorem dX4_isQuotaUsedUp_11 : decode cX4_isQuotaUsedUp 11 = .ok (.iload 4, 2) := by decide +kernel
theorem dX4_isQuotaUsedUp_13 : decode cX4_isQuotaUsedUp 13 = .ok (.invokevirtual 181, 3) := by decide +kernel
theorem dX4_isQuotaUsedUp_16 : decode cX4_isQuotaUsedUp 16 = .ok (.aload_n 0, 1) := by decide +kernel
theorem dX4_isQuotaUsedUp_17 : decode cX4_isQuotaUsedUp 17 = .ok (.getfield 12, 3) := by decide +kernel
theorem dX4_isQuotaUsedUp_20 : decode cX4_isQuotaUsedUp 20 = .ok (.getfield 184, 3) := by decide +kernel
theorem dX4_isQuotaUsedUp_23 : decode cX4_isQuotaUsedUp 23 = .ok (.iload_n 1, 1) := by decide +kernel
theorem dX4_isQuotaUsedUp_24 : decode cX4_isQuotaUsedUp 24 = .ok (.iaload, 1) := by decide +kernel
theorem dX4_isQuotaUsedUp_25 : decode cX4_isQuotaUsedUp 25 = .ok (.if_icmp .lt 5, 3) := by decide +kernel
theorem dX4_isQuotaUsedUp_28 : decode cX4_isQuotaUsedUp 28 = .ok (.iconst 1, 1) := by decide +kernel
theorem dX4_isQuotaUsedUp_29 : decode cX4_isQuotaUsedUp 29 = .ok (.ireturn, 1) := by decide +kernel
theorem dX4_isQuotaUsedUp_30 : decode cX4_isQuotaUsedUp 30 = .ok (.iinc 4 1, 3) := by decide +kernel
theorem dX4_isQuotaUsedUp_33 : decode cX4_isQuotaUsedUp 33 = .ok (.goto (-30), 3) := by decide +kernel
theorem dX4_isQuotaUsedUp_36 : decode cX4_isQuotaUsedUp 36 = .ok (.iconst 0, 1) := by decide +kernel
theorem dX4_isQuotaUsedUp_37 : decode cX4_isQuotaUsedUp 37 = .ok (.ireturn, 1) := by decide +kernel
theorem dX4_fliesAllHours_0 : decode cX4_fliesAllHours 0 = .ok (.iload_n 2, 1) := by decide +kernel
theorem dX4_fliesAllHours_1 : decode cX4_fliesAllHours 1 = .ok (.istore 4, 2) := by decide +kernel
theorem dX4_fliesAllHours_3 : decode cX4_fliesAllHours 3 = .ok (.iload 4, 2) := by decide +kernel
theorem dX4_fliesAllHours_5 : decode cX4_fliesAllHours 5 = .ok (.iload_n 3, 1) := by decide +kernel
theorem dX4_fliesAllHours_6 : decode cX4_fliesAllHours 6 = .ok (.if_icmp .ge 21, 3) := by decide +kernel
theorem dX4_fliesAllHours_9 : decode cX4_fliesAllHours 9 = .ok (.aload_n 0, 1) := by decide +kernel
theorem dX4_fliesAllHours_10 : decode cX4_fliesAllHours 10 = .ok (.iload_n 1, 1) := by decide +kernel
theorem dX4_fliesAllHours_11 : decode cX4_fliesAllHours 11 = .ok (.iload 4, 2) := by decide +kernel
theorem dX4_fliesAllHours_13 : decode cX4_fliesAllHours 13 = .ok (.invokevirtual 187, 3) := by decide +kernel
theorem dX4_fliesAllHours_16 : decode cX4_fliesAllHours 16 = .ok (.ifCond .ne 5, 3) := by decide +kernel
theorem dX4_fliesAllHours_19 : decode cX4_fliesAllHours 19 = .ok (.iconst 0, 1) := by decide +kernel
theorem dX4_fliesAllHours_20 : decode cX4_fliesAllHours 20 = .ok (.ireturn, 1) := by decide +kernel
theorem dX4_fliesAllHours_21 : decode cX4_fliesAllHours 21 = .ok (.iinc 4 1, 3) := by decide +kernel
theorem dX4_fliesAllHours_24 : decode cX4_fliesAllHours 24 = .ok (.goto (-21), 3) := by decide +kernel
theorem dX4_fliesAllHours_27 : decode cX4_fliesAllHours 27 = .ok (.iconst 1, 1) := by decide +kernel
theorem dX4_fliesAllHours_28 : decode cX4_fliesAllHours 28 = .ok (.ireturn, 1) := by decide +kernel
theorem dX4_firstCrossedKite_0 : decode cX4_firstCrossedKite 0 = .ok (.iconst (-1), 1) := by decide +kernel
theorem dX4_firstCrossedKite_1 : decode cX4_firstCrossedKite 1 = .ok (.istore 4, 2) := by decide +kernel
theorem dX4_firstCrossedKite_3 : decode cX4_firstCrossedKite 3 = .ok (.iconst 0, 1) := by decide +kernel
theorem dX4_firstCrossedKite_4 : decode cX4_firstCrossedKite 4 = .ok (.istore 5, 2) := by decide +kernel
theorem dX4_firstCrossedKite_6 : decode cX4_firstCrossedKite 6 = .ok (.iload 5, 2) := by decide +kernel
theorem dX4_firstCrossedKite_8 : decode cX4_firstCrossedKite 8 = .ok (.aload_n 0, 1) := by decide +kernel
theorem dX4_firstCrossedKite_9 : decode cX4_firstCrossedKite 9 = .ok (.getfield 28, 3) := by decide +kernel
theorem dX4_firstCrossedKite_12 : decode cX4_firstCrossedKite 12 = .ok (.getfield 68, 3) := by decide +kernel
theorem dX4_firstCrossedKite_15 : decode cX4_firstCrossedKite 15 = .ok (.if_icmp .ge 68, 3) := by decide +kernel
theorem dX4_firstCrossedKite_18 : decode cX4_firstCrossedKite 18 = .ok (.aload_n 0, 1) := by decide +kernel
theorem dX4_firstCrossedKite_19 : decode cX4_firstCrossedKite 19 = .ok (.getfield 28, 3) := by decide +kernel
theorem dX4_firstCrossedKite_22 : decode cX4_firstCrossedKite 22 = .ok (.getfield 160, 3) := by decide +kernel
theorem dX4_firstCrossedKite_25 : decode cX4_firstCrossedKite 25 = .ok (.iload 5, 2) := by decide +kernel
theorem dX4_firstCrossedKite_27 : decode cX4_firstCrossedKite 27 = .ok (.iaload, 1) := by decide +kernel
theorem dX4_firstCrossedKite_28 : decode cX4_firstCrossedKite 28 = .ok (.istore 6, 2) := by decide +kernel
theorem dX4_firstCrossedKite_30 : decode cX4_firstCrossedKite 30 = .ok (.iload 4, 2) := by decide +kernel
theorem dX4_firstCrossedKite_32 : decode cX4_firstCrossedKite 32 = .ok (.iconst (-1), 1) := by decide +kernel
theorem dX4_firstCrossedKite_33 : decode cX4_firstCrossedKite 33 = .ok (.if_icmp .eq 10, 3) := by decide +kernel
theorem dX4_firstCrossedKite_36 : decode cX4_firstCrossedKite 36 = .ok (.iload 6, 2) := by decide +kernel
theorem dX4_firstCrossedKite_38 : decode cX4_firstCrossedKite 38 = .ok (.iload 4, 2) := by decide +kernel
theorem dX4_firstCrossedKite_40 : decode cX4_firstCrossedKite 40 = .ok (.if_icmp .ge 7, 3) := by decide +kernel
theorem dX4_firstCrossedKite_43 : decode cX4_firstCrossedKite 43 = .ok (.iconst 1, 1) := by decide +kernel
theorem dX4_firstCrossedKite_44 : decode cX4_firstCrossedKite 44 = .ok (.goto 4, 3) := by decide +kernel
theorem dX4_firstCrossedKite_47 : decode cX4_firstCrossedKite 47 = .ok (.iconst 0, 1) := by decide +kernel
theorem dX4_firstCrossedKite_48 : decode cX4_firstCrossedKite 48 = .ok (.istore 7, 2) := by decide +kernel
theorem dX4_firstCrossedKite_50 : decode cX4_firstCrossedKite 50 = .ok (.iload 6, 2) := by decide +kernel
theorem dX4_firstCrossedKite_52 : decode cX4_firstCrossedKite 52 = .ok (.iload_n 1, 1) := by decide +kernel
theorem dX4_firstCrossedKite_53 : decode cX4_firstCrossedKite 53 = .ok (.if_icmp .eq 24, 3) := by decide +kernel
theorem dX4_firstCrossedKite_56 : decode cX4_firstCrossedKite 56 = .ok (.iload 7, 2) := by decide +kernel
theorem dX4_firstCrossedKite_58 : decode cX4_firstCrossedKite 58 = .ok (.ifCond .eq 19, 3) := by decide +kernel
theorem dX4_firstCrossedKite_61 : decode cX4_firstCrossedKite 61 = .ok (.aload_n 0, 1) := by decide +kernel
theorem dX4_firstCrossedKite_62 : decode cX4_firstCrossedKite 62 = .ok (.iload_n 1, 1) := by decide +kernel
theorem dX4_firstCrossedKite_63 : decode cX4_firstCrossedKite 63 = .ok (.iload 5, 2) := by decide +kernel
theorem dX4_firstCrossedKite_65 : decode cX4_firstCrossedKite 65 = .ok (.iload_n 2, 1) := by decide +kernel
theorem dX4_firstCrossedKite_66 : decode cX4_firstCrossedKite 66 = .ok (.iload_n 3, 1) := by decide +kernel
theorem dX4_firstCrossedKite_67 : decode cX4_firstCrossedKite 67 = .ok (.invokevirtual 190, 3) := by decide +kernel
theorem dX4_firstCrossedKite_70 : decode cX4_firstCrossedKite 70 = .ok (.ifCond .le 7, 3) := by decide +kernel
theorem dX4_firstCrossedKite_73 : decode cX4_firstCrossedKite 73 = .ok (.iload 6, 2) := by decide +kernel
theorem dX4_firstCrossedKite_75 : decode cX4_firstCrossedKite 75 = .ok (.istore 4, 2) := by decide +kernel
theorem dX4_firstCrossedKite_77 : decode cX4_firstCrossedKite 77 = .ok (.iinc 5 1, 3) := by decide +kernel
theorem dX4_firstCrossedKite_80 : decode cX4_firstCrossedKite 80 = .ok (.goto (-74), 3) := by decide +kernel
theorem dX4_firstCrossedKite_83 : decode cX4_firstCrossedKite 83 = .ok (.iload 4, 2) := by decide +kernel
theorem dX4_firstCrossedKite_85 : decode cX4_firstCrossedKite 85 = .ok (.ireturn, 1) := by decide +kernel
theorem dX4_countCrossings_0 : decode cX4_countCrossings 0 = .ok (.iconst 0, 1) := by decide +kernel
theorem dX4_countCrossings_1 : decode cX4_countCrossings 1 = .ok (.istore 5, 2) := by decide +kernel
theorem dX4_countCrossings_3 : decode cX4_countCrossings 3 = .ok (.iload 4, 2) := by decide +kernel
theorem dX4_countCrossings_5 : decode cX4_countCrossings 5 = .ok (.aload_n 0, 1) := by decide +kernel
theorem dX4_countCrossings_6 : decode cX4_countCrossings 6 = .ok (.getfield 28, 3) := by decide +kernel
theorem dX4_countCrossings_9 : decode cX4_countCrossings 9 = .ok (.iload_n 2, 1) := by decide +kernel
theorem dX4_countCrossings_10 : decode cX4_countCrossings 10 = .ok (.invokevirtual 194, 3) := by decide +kernel
theorem dX4_countCrossings_13 : decode cX4_countCrossings 13 = .ok (.invokestatic 111, 3) := by decide +kernel
theorem dX4_countCrossings_16 : decode cX4_countCrossings 16 = .ok (.istore 6, 2) := by decide +kernel
theorem dX4_countCrossings_18 : decode cX4_countCrossings 18 = .ok (.iload_n 3, 1) := by decide +kernel
theorem dX4_countCrossings_19 : decode cX4_countCrossings 19 = .ok (.aload_n 0, 1) := by decide +kernel
theorem dX4_countCrossings_20 : decode cX4_countCrossings 20 = .ok (.getfield 28, 3) := by decide +kernel
theorem dX4_countCrossings_23 : decode cX4_countCrossings 23 = .ok (.getfield 197, 3) := by decide +kernel
theorem dX4_countCrossings_26 : decode cX4_countCrossings 26 = .ok (.iload_n 2, 1) := by decide +kernel
theorem dX4_countCrossings_27 : decode cX4_countCrossings 27 = .ok (.iaload, 1) := by decide +kernel
theorem dX4_countCrossings_28 : decode cX4_countCrossings 28 = .ok (.invokestatic 157, 3) := by decide +kernel
theorem dX4_countCrossings_31 : decode cX4_countCrossings 31 = .ok (.istore 7, 2) := by decide +kernel
theorem dX4_countCrossings_33 : decode cX4_countCrossings 33 = .ok (.iload 7, 2) := by decide +kernel
theorem dX4_countCrossings_35 : decode cX4_countCrossings 35 = .ok (.iload 6, 2) := by decide +kernel
theorem dX4_countCrossings_37 : decode cX4_countCrossings 37 = .ok (.if_icmp .ge 31, 3) := by decide +kernel
theorem dX4_countCrossings_40 : decode cX4_countCrossings 40 = .ok (.aload_n 0, 1) := by decide +kernel
theorem dX4_countCrossings_41 : decode cX4_countCrossings 41 = .ok (.iload_n 1, 1) := by decide +kernel
theorem dX4_countCrossings_42 : decode cX4_countCrossings 42 = .ok (.aload_n 0, 1) := by decide +kernel
theorem dX4_countCrossings_43 : decode cX4_countCrossings 43 = .ok (.getfield 28, 3) := by decide +kernel
theorem dX4_countCrossings_46 : decode cX4_countCrossings 46 = .ok (.getfield 160, 3) := by decide +kernel
theorem dX4_countCrossings_49 : decode cX4_countCrossings 49 = .ok (.iload_n 2, 1) := by decide +kernel
theorem dX4_countCrossings_50 : decode cX4_countCrossings 50 = .ok (.iaload, 1) := by decide +kernel
theorem dX4_countCrossings_51 : decode cX4_countCrossings 51 = .ok (.iload 7, 2) := by decide +kernel
theorem dX4_countCrossings_53 : decode cX4_countCrossings 53 = .ok (.invokevirtual 200, 3) := by decide +kernel
theorem dX4_countCrossings_56 : decode cX4_countCrossings 56 = .ok (.ifCond .eq 6, 3) := by decide +kernel
theorem dX4_countCrossings_59 : decode cX4_countCrossings 59 = .ok (.iinc 5 1, 3) := by decide +kernel
theorem dX4_countCrossings_62 : decode cX4_countCrossings 62 = .ok (.iinc 7 1, 3) := by decide +kernel
theorem dX4_countCrossings_65 : decode cX4_countCrossings 65 = .ok (.goto (-32), 3) := by decide +kernel
theorem dX4_countCrossings_68 : decode cX4_countCrossings 68 = .ok (.iload 5, 2) := by decide +kernel
theorem dX4_countCrossings_70 : decode cX4_countCrossings 70 = .ok (.ireturn, 1) := by decide +kernel
theorem dX4_countPermittedCrossings_0 : decode cX4_countPermittedCrossings 0 = .ok (.iconst 0, 1) := by decide +kernel
theorem dX4_countPermittedCrossings_1 : decode cX4_countPermittedCrossings 1 = .ok (.istore_n 1, 1) := by decide +kernel
theorem dX4_countPermittedCrossings_2 : decode cX4_countPermittedCrossings 2 = .ok (.iconst 0, 1) := by decide +kernel
theorem dX4_countPermittedCrossings_3 : decode cX4_countPermittedCrossings 3 = .ok (.istore_n 2, 1) := by decide +kernel
theorem dX4_countPermittedCrossings_4 : decode cX4_countPermittedCrossings 4 = .ok (.iload_n 2, 1) := by decide +kernel
theorem dX4_countPermittedCrossings_5 : decode cX4_countPermittedCrossings 5 = .ok (.aload_n 0, 1) := by decide +kernel
theorem dX4_countPermittedCrossings_6 : decode cX4_countPermittedCrossings 6 = .ok (.getfield 28, 3) := by decide +kernel
theorem dX4_countPermittedCrossings_9 : decode cX4_countPermittedCrossings 9 = .ok (.getfield 68, 3) := by decide +kernel
theorem dX4_countPermittedCrossings_12 : decode cX4_countPermittedCrossings 12 = .ok (.if_icmp .ge 94, 3) := by decide +kernel
theorem dX4_countPermittedCrossings_15 : decode cX4_countPermittedCrossings 15 = .ok (.aload_n 0, 1) := by decide +kernel
theorem dX4_countPermittedCrossings_16 : decode cX4_countPermittedCrossings 16 = .ok (.getfield 28, 3) := by decide +kernel
theorem dX4_countPermittedCrossings_19 : decode cX4_countPermittedCrossings 19 = .ok (.getfield 160, 3) := by decide +kernel
theorem dX4_countPermittedCrossings_22 : decode cX4_countPermittedCrossings 22 = .ok (.iload_n 2, 1) := by decide +kernel
theorem dX4_countPermittedCrossings_23 : decode cX4_countPermittedCrossings 23 = .ok (.iaload, 1) := by decide +kernel
theorem dX4_countPermittedCrossings_24 : decode cX4_countPermittedCrossings 24 = .ok (.istore_n 3, 1) := by decide +kernel
theorem dX4_countPermittedCrossings_25 : decode cX4_countPermittedCrossings 25 = .ok (.aload_n 0, 1) := by decide +kernel
theorem dX4_countPermittedCrossings_26 : decode cX4_countPermittedCrossings 26 = .ok (.getfield 46, 3) := by decide +kernel
theorem dX4_countPermittedCrossings_29 : decode cX4_countPermittedCrossings 29 = .ok (.aload_n 0, 1) := by decide +kernel
theorem dX4_countPermittedCrossings_30 : decode cX4_countPermittedCrossings 30 = .ok (.getfield 28, 3) := by decide +kernel
theorem dX4_countPermittedCrossings_33 : decode cX4_countPermittedCrossings 33 = .ok (.getfield 197, 3) := by decide +kernel
theorem dX4_countPermittedCrossings_36 : decode cX4_countPermittedCrossings 36 = .ok (.iload_n 2, 1) := by decide +kernel
theorem dX4_countPermittedCrossings_37 : decode cX4_countPermittedCrossings 37 = .ok (.iaload, 1) := by decide +kernel
theorem dX4_countPermittedCrossings_38 : decode cX4_countPermittedCrossings 38 = .ok (.invokestatic 157, 3) := by decide +kernel
theorem dX4_countPermittedCrossings_41 : decode cX4_countPermittedCrossings 41 = .ok (.istore 4, 2) := by decide +kernel
theorem dX4_countPermittedCrossings_43 : decode cX4_countPermittedCrossings 43 = .ok (.iload_n 2, 1) := by decide +kernel
theorem dX4_countPermittedCrossings_44 : decode cX4_countPermittedCrossings 44 = .ok (.iconst 1, 1) := by decide +kernel
theorem dX4_countPermittedCrossings_45 : decode cX4_countPermittedCrossings 45 = .ok (.iadd, 1) := by decide +kernel
theorem dX4_countPermittedCrossings_46 : decode cX4_countPermittedCrossings 46 = .ok (.istore 5, 2) := by decide +kernel
theorem dX4_countPermittedCrossings_48 : decode cX4_countPermittedCrossings 48 = .ok (.iload 5, 2) := by decide +kernel
theorem dX4_countPermittedCrossings_50 : decode cX4_countPermittedCrossings 50 = .ok (.aload_n 0, 1) := by decide +kernel
theorem dX4_countPermittedCrossings_51 : decode cX4_countPermittedCrossings 51 = .ok (.getfield 28, 3) := by decide +kernel
theorem dX4_countPermittedCrossings_54 : decode cX4_countPermittedCrossings 54 = .ok (.getfield 68, 3) := by decide +kernel
theorem dX4_countPermittedCrossings_57 : decode cX4_countPermittedCrossings 57 = .ok (.if_icmp .ge 43, 3) := by decide +kernel
theorem dX4_countPermittedCrossings_60 : decode cX4_countPermittedCrossings 60 = .ok (.aload_n 0, 1) := by decide +kernel
theorem dX4_countPermittedCrossings_61 : decode cX4_countPermittedCrossings 61 = .ok (.getfield 28, 3) := by decide +kernel
theorem dX4_countPermittedCrossings_64 : decode cX4_countPermittedCrossings 64 = .ok (.getfield 160, 3) := by decide +kernel
theorem dX4_countPermittedCrossings_67 : decode cX4_countPermittedCrossings 67 = .ok (.iload 5, 2) := by decide +kernel
theorem dX4_countPermittedCrossings_69 : decode cX4_countPermittedCrossings 69 = .ok (.iaload, 1) := by decide +kernel
theorem dX4_countPermittedCrossings_70 : decode cX4_countPermittedCrossings 70 = .ok (.iload_n 3, 1) := by decide +kernel
theorem dX4_countPermittedCrossings_71 : decode cX4_countPermittedCrossings 71 = .ok (.if_icmp .eq 23, 3) := by decide +kernel
theorem dX4_countPermittedCrossings_74 : decode cX4_countPermittedCrossings 74 = .ok (.iload_n 1, 1) := by decide +kernel
theorem dX4_countPermittedCrossings_75 : decode cX4_countPermittedCrossings 75 = .ok (.aload_n 0, 1) := by decide +kernel
theorem dX4_countPermittedCrossings_76 : decode cX4_countPermittedCrossings 76 = .ok (.iload_n 3, 1) := by decide +kernel
theorem dX4_countPermittedCrossings_77 : decode cX4_countPermittedCrossings 77 = .ok (.iload 5, 2) := by decide +kernel
theorem dX4_countPermittedCrossings_79 : decode cX4_countPermittedCrossings 79 = .ok (.iload 4, 2) := by decide +kernel
theorem dX4_countPermittedCrossings_81 : decode cX4_countPermittedCrossings 81 = .ok (.aload_n 0, 1) := by decide +kernel
theorem dX4_countPermittedCrossings_82 : decode cX4_countPermittedCrossings 82 = .ok (.getfield 28, 3) := by decide +kernel
theorem dX4_countPermittedCrossings_85 : decode cX4_countPermittedCrossings 85 = .ok (.iload_n 2, 1) := by decide +kernel
theorem dX4_countPermittedCrossings_86 : decode cX4_countPermittedCrossings 86 = .ok (.invokevirtual 194, 3) := by decide +kernel
theorem dX4_countPermittedCrossings_89 : decode cX4_countPermittedCrossings 89 = .ok (.invokevirtual 190, 3) := by decide +kernel
theorem dX4_countPermittedCrossings_92 : decode cX4_countPermittedCrossings 92 = .ok (.iadd, 1) := by decide +kernel
theorem dX4_countPermittedCrossings_93 : decode cX4_countPermittedCrossings 93 = .ok (.istore_n 1, 1) := by decide +kernel
theorem dX4_countPermittedCrossings_94 : decode cX4_countPermittedCrossings 94 = .ok (.iinc 5 1, 3) := by decide +kernel
theorem dX4_countPermittedCrossings_97 : decode cX4_countPermittedCrossings 97 = .ok (.goto (-49), 3) := by decide +kernel
theorem dX4_countPermittedCrossings_100 : decode cX4_countPermittedCrossings 100 = .ok (.iinc 2 1, 3) := by decide +kernel
theorem dX4_countPermittedCrossings_103 : decode cX4_countPermittedCrossings 103 = .ok (.goto (-99), 3) := by decide +kernel
theorem dX4_countPermittedCrossings_106 : decode cX4_countPermittedCrossings 106 = .ok (.iload_n 1, 1) := by decide +kernel
theorem dX4_countPermittedCrossings_107 : decode cX4_countPermittedCrossings 107 = .ok (.ireturn, 1) := by decide +kernel
theorem dX4_grant_0 : decode cX4_grant 0 = .ok (.aload_n 0, 1) := by decide +kernel
theorem dX4_grant_1 : decode cX4_grant 1 = .ok (.iload_n 1, 1) := by decide +kernel
theorem dX4_grant_2 : decode cX4_grant 2 = .ok (.aload_n 0, 1) := by decide +kernel
theorem dX4_grant_3 : decode cX4_grant 3 = .ok (.getfield 12, 3) := by decide +kernel
theorem dX4_grant_6 : decode cX4_grant 6 = .ok (.getfield 178, 3) := by decide +kernel
theorem dX4_grant_9 : decode cX4_grant 9 = .ok (.iload_n 3, 1) := by decide +kernel
theorem dX4_grant_10 : decode cX4_grant 10 = .ok (.imul, 1) := by decide +kernel
theorem dX4_grant_11 : decode cX4_grant 11 = .ok (.invokevirtual 203, 3) := by decide +kernel
theorem dX4_grant_14 : decode cX4_grant 14 = .ok (.aload_n 0, 1) := by decide +kernel
theorem dX4_grant_15 : decode cX4_grant 15 = .ok (.getfield 28, 3) := by decide +kernel
theorem dX4_grant_18 : decode cX4_grant 18 = .ok (.iload_n 1, 1) := by decide +kernel
theorem dX4_grant_19 : decode cX4_grant 19 = .ok (.iload_n 2, 1) := by decide +kernel
theorem dX4_grant_20 : decode cX4_grant 20 = .ok (.iload_n 3, 1) := by decide +kernel
theorem dX4_grant_21 : decode cX4_grant 21 = .ok (.invokevirtual 207, 3) := by decide +kernel
theorem dX4_grant_24 : decode cX4_grant 24 = .ok (.return_, 1) := by decide +kernel
theorem dX4_payOffice_0 : decode cX4_payOffice 0 = .ok (.aload_n 0, 1) := by decide +kernel
theorem dX4_payOffice_1 : decode cX4_payOffice 1 = .ok (.getfield 21, 3) := by decide +kernel
theorem dX4_payOffice_4 : decode cX4_payOffice 4 = .ok (.getfield 92, 3) := by decide +kernel
theorem dX4_payOffice_7 : decode cX4_payOffice 7 = .ok (.iload_n 1, 1) := by decide +kernel
theorem dX4_payOffice_8 : decode cX4_payOffice 8 = .ok (.dup2, 1) := by decide +kernel
theorem dX4_payOffice_9 : decode cX4_payOffice 9 = .ok (.iaload, 1) := by decide +kernel
theorem dX4_payOffice_10 : decode cX4_payOffice 10 = .ok (.iload_n 2, 1) := by decide +kernel
theorem dX4_payOffice_11 : decode cX4_payOffice 11 = .ok (.isub, 1) := by decide +kernel
theorem dX4_payOffice_12 : decode cX4_payOffice 12 = .ok (.iastore, 1) := by decide +kernel
theorem dX4_payOffice_13 : decode cX4_payOffice 13 = .ok (.aload_n 0, 1) := by decide +kernel
theorem dX4_payOffice_14 : decode cX4_payOffice 14 = .ok (.dup, 1) := by decide +kernel
theorem dX4_payOffice_15 : decode cX4_payOffice 15 = .ok (.getfield 50, 3) := by decide +kernel
theorem dX4_payOffice_18 : decode cX4_payOffice 18 = .ok (.iload_n 2, 1) := by decide +kernel
theorem dX4_payOffice_19 : decode cX4_payOffice 19 = .ok (.iadd, 1) := by decide +kernel
theorem dX4_payOffice_20 : decode cX4_payOffice 20 = .ok (.putfield 50, 3) := by decide +kernel
theorem dX4_payOffice_23 : decode cX4_payOffice 23 = .ok (.return_, 1) := by decide +kernel
theorem dX4_isLaunchable_0 : decode cX4_isLaunchable 0 = .ok (.aload_n 0, 1) := by decide +kernel
theorem dX4_isLaunchable_1 : decode cX4_isLaunchable 1 = .ok (.getfield 21, 3) := by decide +kernel
theorem dX4_isLaunchable_4 : decode cX4_isLaunchable 4 = .ok (.getfield 95, 3) := by decide +kernel
theorem dX4_isLaunchable_7 : decode cX4_isLaunchable 7 = .ok (.iload_n 1, 1) := by decide +kernel
theorem dX4_isLaunchable_8 : decode cX4_isLaunchable 8 = .ok (.iaload, 1) := by decide +kernel
theorem dX4_isLaunchable_9 : decode cX4_isLaunchable 9 = .ok (.ifCond .ne 19, 3) := by decide +kernel
theorem dX4_isLaunchable_12 : decode cX4_isLaunchable 12 = .ok (.aload_n 0, 1) := by decide +kernel
theorem dX4_isLaunchable_13 : decode cX4_isLaunchable 13 = .ok (.iload_n 1, 1) := by decide +kernel
theorem dX4_isLaunchable_14 : decode cX4_isLaunchable 14 = .ok (.aload_n 0, 1) := by decide +kernel
theorem dX4_isLaunchable_15 : decode cX4_isLaunchable 15 = .ok (.getfield 46, 3) := by decide +kernel
theorem dX4_isLaunchable_18 : decode cX4_isLaunchable 18 = .ok (.invokevirtual 187, 3) := by decide +kernel
theorem dX4_isLaunchable_21 : decode cX4_isLaunchable 21 = .ok (.ifCond .eq 7, 3) := by decide +kernel
theorem dX4_isLaunchable_24 : decode cX4_isLaunchable 24 = .ok (.iconst 1, 1) := by decide +kernel
theorem dX4_isLaunchable_25 : decode cX4_isLaunchable 25 = .ok (.goto 4, 3) := by decide +kernel
theorem dX4_isLaunchable_28 : decode cX4_isLaunchable 28 = .ok (.iconst 0, 1) := by decide +kernel
theorem dX4_isLaunchable_29 : decode cX4_isLaunchable 29 = .ok (.ireturn, 1) := by decide +kernel
theorem dX4_sendUp_0 : decode cX4_sendUp 0 = .ok (.aload_n 0, 1) := by decide +kernel
theorem dX4_sendUp_1 : decode cX4_sendUp 1 = .ok (.getfield 21, 3) := by decide +kernel
theorem dX4_sendUp_4 : decode cX4_sendUp 4 = .ok (.getfield 95, 3) := by decide +kernel
theorem dX4_sendUp_7 : decode cX4_sendUp 7 = .ok (.iload_n 1, 1) := by decide +kernel
theorem dX4_sendUp_8 : decode cX4_sendUp 8 = .ok (.iconst 1, 1) := by decide +kernel
theorem dX4_sendUp_9 : decode cX4_sendUp 9 = .ok (.iastore, 1) := by decide +kernel
theorem dX4_sendUp_10 : decode cX4_sendUp 10 = .ok (.aload_n 0, 1) := by decide +kernel
theorem dX4_sendUp_11 : decode cX4_sendUp 11 = .ok (.getfield 21, 3) := by decide +kernel
theorem dX4_sendUp_14 : decode cX4_sendUp 14 = .ok (.dup, 1) := by decide +kernel
theorem dX4_sendUp_15 : decode cX4_sendUp 15 = .ok (.getfield 65, 3) := by decide +kernel
theorem dX4_sendUp_18 : decode cX4_sendUp 18 = .ok (.iconst 1, 1) := by decide +kernel
theorem dX4_sendUp_19 : decode cX4_sendUp 19 = .ok (.iadd, 1) := by decide +kernel
theorem dX4_sendUp_20 : decode cX4_sendUp 20 = .ok (.putfield 65, 3) := by decide +kernel
theorem dX4_sendUp_23 : decode cX4_sendUp 23 = .ok (.aload_n 0, 1) := by decide +kernel
theorem dX4_sendUp_24 : decode cX4_sendUp 24 = .ok (.getfield 21, 3) := by decide +kernel
theorem dX4_sendUp_27 : decode cX4_sendUp 27 = .ok (.getfield 98, 3) := by decide +kernel
theorem dX4_sendUp_30 : decode cX4_sendUp 30 = .ok (.iload_n 1, 1) := by decide +kernel
theorem dX4_sendUp_31 : decode cX4_sendUp 31 = .ok (.aload_n 0, 1) := by decide +kernel
theorem dX4_sendUp_32 : decode cX4_sendUp 32 = .ok (.getfield 21, 3) := by decide +kernel
theorem dX4_sendUp_35 : decode cX4_sendUp 35 = .ok (.getfield 65, 3) := by decide +kernel
theorem dX4_sendUp_38 : decode cX4_sendUp 38 = .ok (.iastore, 1) := by decide +kernel
theorem dX4_sendUp_39 : decode cX4_sendUp 39 = .ok (.return_, 1) := by decide +kernel
theorem dX4_bringDown_0 : decode cX4_bringDown 0 = .ok (.aload_n 0, 1) := by decide +kernel
theorem dX4_bringDown_1 : decode cX4_bringDown 1 = .ok (.getfield 21, 3) := by decide +kernel
theorem dX4_bringDown_4 : decode cX4_bringDown 4 = .ok (.getfield 95, 3) := by decide +kernel
theorem dX4_bringDown_7 : decode cX4_bringDown 7 = .ok (.iload_n 1, 1) := by decide +kernel
theorem dX4_bringDown_8 : decode cX4_bringDown 8 = .ok (.iconst 0, 1) := by decide +kernel
theorem dX4_bringDown_9 : decode cX4_bringDown 9 = .ok (.iastore, 1) := by decide +kernel
theorem dX4_bringDown_10 : decode cX4_bringDown 10 = .ok (.return_, 1) := by decide +kernel
theorem dX4_letHoursPass_0 : decode cX4_letHoursPass 0 = .ok (.iconst 0, 1) := by decide +kernel
theorem dX4_letHoursPass_1 : decode cX4_letHoursPass 1 = .ok (.istore_n 2, 1) := by decide +kernel
theorem dX4_letHoursPass_2 : decode cX4_letHoursPass 2 = .ok (.iconst 0, 1) := by decide +kernel
theorem dX4_letHoursPass_3 : decode cX4_letHoursPass 3 = .ok (.istore_n 3, 1) := by decide +kernel
theorem dX4_letHoursPass_4 : decode cX4_letHoursPass 4 = .ok (.iload_n 3, 1) := by decide +kernel
theorem dX4_letHoursPass_5 : decode cX4_letHoursPass 5 = .ok (.iload_n 1, 1) := by decide +kernel
theorem dX4_letHoursPass_6 : decode cX4_letHoursPass 6 = .ok (.if_icmp .ge 45, 3) := by decide +kernel
theorem dX4_letHoursPass_9 : decode cX4_letHoursPass 9 = .ok (.aload_n 0, 1) := by decide +kernel
theorem dX4_letHoursPass_10 : decode cX4_letHoursPass 10 = .ok (.dup, 1) := by decide +kernel
theorem dX4_letHoursPass_11 : decode cX4_letHoursPass 11 = .ok (.getfield 46, 3) := by decide +kernel
theorem dX4_letHoursPass_14 : decode cX4_letHoursPass 14 = .ok (.iconst 1, 1) := by decide +kernel
theorem dX4_letHoursPass_15 : decode cX4_letHoursPass 15 = .ok (.iadd, 1) := by decide +kernel
theorem dX4_letHoursPass_16 : decode cX4_letHoursPass 16 = .ok (.putfield 46, 3) := by decide +kernel
theorem dX4_letHoursPass_19 : decode cX4_letHoursPass 19 = .ok (.aload_n 0, 1) := by decide +kernel
theorem dX4_letHoursPass_20 : decode cX4_letHoursPass 20 = .ok (.getfield 28, 3) := by decide +kernel
theorem dX4_letHoursPass_23 : decode cX4_letHoursPass 23 = .ok (.aload_n 0, 1) := by decide +kernel
theorem dX4_letHoursPass_24 : decode cX4_letHoursPass 24 = .ok (.getfield 46, 3) := by decide +kernel
theorem dX4_letHoursPass_27 : decode cX4_letHoursPass 27 = .ok (.invokevirtual 214, 3) := by decide +kernel
theorem dX4_letHoursPass_30 : decode cX4_letHoursPass 30 = .ok (.aload_n 0, 1) := by decide +kernel
theorem dX4_letHoursPass_31 : decode cX4_letHoursPass 31 = .ok (.invokevirtual 218, 3) := by decide +kernel
theorem dX4_letHoursPass_34 : decode cX4_letHoursPass 34 = .ok (.iload_n 2, 1) := by decide +kernel
theorem dX4_letHoursPass_35 : decode cX4_letHoursPass 35 = .ok (.aload_n 0, 1) := by decide +kernel
theorem dX4_letHoursPass_36 : decode cX4_letHoursPass 36 = .ok (.invokevirtual 221, 3) := by decide +kernel
theorem dX4_letHoursPass_39 : decode cX4_letHoursPass 39 = .ok (.iadd, 1) := by decide +kernel
theorem dX4_letHoursPass_40 : decode cX4_letHoursPass 40 = .ok (.istore_n 2, 1) := by decide +kernel
theorem dX4_letHoursPass_41 : decode cX4_letHoursPass 41 = .ok (.aload_n 0, 1) := by decide +kernel
theorem dX4_letHoursPass_42 : decode cX4_letHoursPass 42 = .ok (.invokevirtual 225, 3) := by decide +kernel
theorem dX4_letHoursPass_45 : decode cX4_letHoursPass 45 = .ok (.iinc 3 1, 3) := by decide +kernel
theorem dX4_letHoursPass_48 : decode cX4_letHoursPass 48 = .ok (.goto (-44), 3) := by decide +kernel
theorem dX4_letHoursPass_51 : decode cX4_letHoursPass 51 = .ok (.iload_n 2, 1) := by decide +kernel
theorem dX4_letHoursPass_52 : decode cX4_letHoursPass 52 = .ok (.ireturn, 1) := by decide +kernel
theorem dX4_groundBecalmedKites_0 : decode cX4_groundBecalmedKites 0 = .ok (.iconst 0, 1) := by decide +kernel
theorem dX4_groundBecalmedKites_1 : decode cX4_groundBecalmedKites 1 = .ok (.istore_n 1, 1) := by decide +kernel
theorem dX4_groundBecalmedKites_2 : decode cX4_groundBecalmedKites 2 = .ok (.iload_n 1, 1) := by decide +kernel
theorem dX4_groundBecalmedKites_3 : decode cX4_groundBecalmedKites 3 = .ok (.aload_n 0, 1) := by decide +kernel
theorem dX4_groundBecalmedKites_4 : decode cX4_groundBecalmedKites 4 = .ok (.getfield 21, 3) := by decide +kernel
theorem dX4_groundBecalmedKites_7 : decode cX4_groundBecalmedKites 7 = .ok (.getfield 62, 3) := by decide +kernel
theorem dX4_groundBecalmedKites_10 : decode cX4_groundBecalmedKites 10 = .ok (.if_icmp .ge 44, 3) := by decide +kernel
theorem dX4_groundBecalmedKites_13 : decode cX4_groundBecalmedKites 13 = .ok (.aload_n 0, 1) := by decide +kernel
theorem dX4_groundBecalmedKites_14 : decode cX4_groundBecalmedKites 14 = .ok (.getfield 21, 3) := by decide +kernel
theorem dX4_groundBecalmedKites_17 : decode cX4_groundBecalmedKites 17 = .ok (.getfield 95, 3) := by decide +kernel
theorem dX4_groundBecalmedKites_20 : decode cX4_groundBecalmedKites 20 = .ok (.iload_n 1, 1) := by decide +kernel
theorem dX4_groundBecalmedKites_21 : decode cX4_groundBecalmedKites 21 = .ok (.iaload, 1) := by decide +kernel
theorem dX4_groundBecalmedKites_22 : decode cX4_groundBecalmedKites 22 = .ok (.iconst 1, 1) := by decide +kernel
theorem dX4_groundBecalmedKites_23 : decode cX4_groundBecalmedKites 23 = .ok (.if_icmp .ne 25, 3) := by decide +kernel
theorem dX4_groundBecalmedKites_26 : decode cX4_groundBecalmedKites 26 = .ok (.aload_n 0, 1) := by decide +kernel
theorem dX4_groundBecalmedKites_27 : decode cX4_groundBecalmedKites 27 = .ok (.iload_n 1, 1) := by decide +kernel
theorem dX4_groundBecalmedKites_28 : decode cX4_groundBecalmedKites 28 = .ok (.aload_n 0, 1) := by decide +kernel
theorem dX4_groundBecalmedKites_29 : decode cX4_groundBecalmedKites 29 = .ok (.getfield 46, 3) := by decide +kernel
theorem dX4_groundBecalmedKites_32 : decode cX4_groundBecalmedKites 32 = .ok (.invokevirtual 187, 3) := by decide +kernel
theorem dX4_groundBecalmedKites_35 : decode cX4_groundBecalmedKites 35 = .ok (.ifCond .ne 13, 3) := by decide +kernel
theorem dX4_groundBecalmedKites_38 : decode cX4_groundBecalmedKites 38 = .ok (.aload_n 0, 1) := by decide +kernel
theorem dX4_groundBecalmedKites_39 : decode cX4_groundBecalmedKites 39 = .ok (.getfield 21, 3) := by decide +kernel
theorem dX4_groundBecalmedKites_42 : decode cX4_groundBecalmedKites 42 = .ok (.getfield 95, 3) := by decide +kernel
theorem dX4_groundBecalmedKites_45 : decode cX4_groundBecalmedKites 45 = .ok (.iload_n 1, 1) := by decide +kernel
theorem dX4_groundBecalmedKites_46 : decode cX4_groundBecalmedKites 46 = .ok (.iconst 0, 1) := by decide +kernel
theorem dX4_groundBecalmedKites_47 : decode cX4_groundBecalmedKites 47 = .ok (.iastore, 1) := by decide +kernel
theorem dX4_groundBecalmedKites_48 : decode cX4_groundBecalmedKites 48 = .ok (.iinc 1 1, 3) := by decide +kernel
theorem dX4_groundBecalmedKites_51 : decode cX4_groundBecalmedKites 51 = .ok (.goto (-49), 3) := by decide +kernel
theorem dX4_groundBecalmedKites_54 : decode cX4_groundBecalmedKites 54 = .ok (.return_, 1) := by decide +kernel
theorem dX4_judgeCrossings_0 : decode cX4_judgeCrossings 0 = .ok (.iconst 0, 1) := by decide +kernel
theorem dX4_judgeCrossings_1 : decode cX4_judgeCrossings 1 = .ok (.istore_n 1, 1) := by decide +kernel
theorem dX4_judgeCrossings_2 : decode cX4_judgeCrossings 2 = .ok (.iconst 0, 1) := by decide +kernel
theorem dX4_judgeCrossings_3 : decode cX4_judgeCrossings 3 = .ok (.istore_n 2, 1) := by decide +kernel
theorem dX4_judgeCrossings_4 : decode cX4_judgeCrossings 4 = .ok (.iload_n 2, 1) := by decide +kernel
theorem dX4_judgeCrossings_5 : decode cX4_judgeCrossings 5 = .ok (.aload_n 0, 1) := by decide +kernel
theorem dX4_judgeCrossings_6 : decode cX4_judgeCrossings 6 = .ok (.getfield 21, 3) := by decide +kernel
theorem dX4_judgeCrossings_9 : decode cX4_judgeCrossings 9 = .ok (.getfield 62, 3) := by decide +kernel
theorem dX4_judgeCrossings_12 : decode cX4_judgeCrossings 12 = .ok (.if_icmp .ge 90, 3) := by decide +kernel
theorem dX4_judgeCrossings_15 : decode cX4_judgeCrossings 15 = .ok (.iload_n 2, 1) := by decide +kernel
theorem dX4_judgeCrossings_16 : decode cX4_judgeCrossings 16 = .ok (.iconst 1, 1) := by decide +kernel
theorem dX4_judgeCrossings_17 : decode cX4_judgeCrossings 17 = .ok (.iadd, 1) := by decide +kernel
theorem dX4_judgeCrossings_18 : decode cX4_judgeCrossings 18 = .ok (.istore_n 3, 1) := by decide +kernel
theorem dX4_judgeCrossings_19 : decode cX4_judgeCrossings 19 = .ok (.iload_n 3, 1) := by decide +kernel
theorem dX4_judgeCrossings_20 : decode cX4_judgeCrossings 20 = .ok (.aload_n 0, 1) := by decide +kernel
theorem dX4_judgeCrossings_21 : decode cX4_judgeCrossings 21 = .ok (.getfield 21, 3) := by decide +kernel
theorem dX4_judgeCrossings_24 : decode cX4_judgeCrossings 24 = .ok (.getfield 62, 3) := by decide +kernel
theorem dX4_judgeCrossings_27 : decode cX4_judgeCrossings 27 = .ok (.if_icmp .ge 69, 3) := by decide +kernel
theorem dX4_judgeCrossings_30 : decode cX4_judgeCrossings 30 = .ok (.aload_n 0, 1) := by decide +kernel
theorem dX4_judgeCrossings_31 : decode cX4_judgeCrossings 31 = .ok (.getfield 21, 3) := by decide +kernel
theorem dX4_judgeCrossings_34 : decode cX4_judgeCrossings 34 = .ok (.getfield 95, 3) := by decide +kernel
theorem dX4_judgeCrossings_37 : decode cX4_judgeCrossings 37 = .ok (.iload_n 2, 1) := by decide +kernel
theorem dX4_judgeCrossings_38 : decode cX4_judgeCrossings 38 = .ok (.iaload, 1) := by decide +kernel
theorem dX4_judgeCrossings_39 : decode cX4_judgeCrossings 39 = .ok (.iconst 1, 1) := by decide +kernel
theorem dX4_judgeCrossings_40 : decode cX4_judgeCrossings 40 = .ok (.if_icmp .ne 20, 3) := by decide +kernel
theorem dX4_judgeCrossings_43 : decode cX4_judgeCrossings 43 = .ok (.aload_n 0, 1) := by decide +kernel
theorem dX4_judgeCrossings_44 : decode cX4_judgeCrossings 44 = .ok (.getfield 21, 3) := by decide +kernel
theorem dX4_judgeCrossings_47 : decode cX4_judgeCrossings 47 = .ok (.getfield 95, 3) := by decide +kernel
theorem dX4_judgeCrossings_50 : decode cX4_judgeCrossings 50 = .ok (.iload_n 3, 1) := by decide +kernel
theorem dX4_judgeCrossings_51 : decode cX4_judgeCrossings 51 = .ok (.iaload, 1) := by decide +kernel
theorem dX4_judgeCrossings_52 : decode cX4_judgeCrossings 52 = .ok (.iconst 1, 1) := by decide +kernel
theorem dX4_judgeCrossings_53 : decode cX4_judgeCrossings 53 = .ok (.if_icmp .ne 7, 3) := by decide +kernel
theorem dX4_judgeCrossings_56 : decode cX4_judgeCrossings 56 = .ok (.iconst 1, 1) := by decide +kernel
theorem dX4_judgeCrossings_57 : decode cX4_judgeCrossings 57 = .ok (.goto 4, 3) := by decide +kernel
theorem dX4_judgeCrossings_60 : decode cX4_judgeCrossings 60 = .ok (.iconst 0, 1) := by decide +kernel
theorem dX4_judgeCrossings_61 : decode cX4_judgeCrossings 61 = .ok (.istore 4, 2) := by decide +kernel
theorem dX4_judgeCrossings_63 : decode cX4_judgeCrossings 63 = .ok (.iload 4, 2) := by decide +kernel
theorem dX4_judgeCrossings_65 : decode cX4_judgeCrossings 65 = .ok (.ifCond .eq 25, 3) := by decide +kernel
theorem dX4_judgeCrossings_68 : decode cX4_judgeCrossings 68 = .ok (.aload_n 0, 1) := by decide +kernel
theorem dX4_judgeCrossings_69 : decode cX4_judgeCrossings 69 = .ok (.iload_n 2, 1) := by decide +kernel
theorem dX4_judgeCrossings_70 : decode cX4_judgeCrossings 70 = .ok (.iload_n 3, 1) := by decide +kernel
theorem dX4_judgeCrossings_71 : decode cX4_judgeCrossings 71 = .ok (.aload_n 0, 1) := by decide +kernel
theorem dX4_judgeCrossings_72 : decode cX4_judgeCrossings 72 = .ok (.getfield 46, 3) := by decide +kernel
theorem dX4_judgeCrossings_75 : decode cX4_judgeCrossings 75 = .ok (.invokevirtual 200, 3) := by decide +kernel
theorem dX4_judgeCrossings_78 : decode cX4_judgeCrossings 78 = .ok (.ifCond .eq 12, 3) := by decide +kernel
theorem dX4_judgeCrossings_81 : decode cX4_judgeCrossings 81 = .ok (.aload_n 0, 1) := by decide +kernel
theorem dX4_judgeCrossings_82 : decode cX4_judgeCrossings 82 = .ok (.iload_n 2, 1) := by decide +kernel
theorem dX4_judgeCrossings_83 : decode cX4_judgeCrossings 83 = .ok (.iload_n 3, 1) := by decide +kernel
theorem dX4_judgeCrossings_84 : decode cX4_judgeCrossings 84 = .ok (.invokevirtual 228, 3) := by decide +kernel
theorem dX4_judgeCrossings_87 : decode cX4_judgeCrossings 87 = .ok (.iinc 1 1, 3) := by decide +kernel
theorem dX4_judgeCrossings_90 : decode cX4_judgeCrossings 90 = .ok (.iinc 3 1, 3) := by decide +kernel
theorem dX4_judgeCrossings_93 : decode cX4_judgeCrossings 93 = .ok (.goto (-74), 3) := by decide +kernel
theorem dX4_judgeCrossings_96 : decode cX4_judgeCrossings 96 = .ok (.iinc 2 1, 3) := by decide +kernel
theorem dX4_judgeCrossings_99 : decode cX4_judgeCrossings 99 = .ok (.goto (-95), 3) := by decide +kernel
theorem dX4_judgeCrossings_102 : decode cX4_judgeCrossings 102 = .ok (.iload_n 1, 1) := by decide +kernel
theorem dX4_judgeCrossings_103 : decode cX4_judgeCrossings 103 = .ok (.ireturn, 1) := by decide +kernel
theorem dX4_giveVerdict_0 : decode cX4_giveVerdict 0 = .ok (.aload_n 0, 1) := by decide +kernel
theorem dX4_giveVerdict_1 : decode cX4_giveVerdict 1 = .ok (.iload_n 1, 1) := by decide +kernel
theorem dX4_giveVerdict_2 : decode cX4_giveVerdict 2 = .ok (.iload_n 2, 1) := by decide +kernel
theorem dX4_giveVerdict_3 : decode cX4_giveVerdict 3 = .ok (.invokevirtual 231, 3) := by decide +kernel
theorem dX4_giveVerdict_6 : decode cX4_giveVerdict 6 = .ok (.istore_n 3, 1) := by decide +kernel
theorem dX4_giveVerdict_7 : decode cX4_giveVerdict 7 = .ok (.iload_n 3, 1) := by decide +kernel
theorem dX4_giveVerdict_8 : decode cX4_giveVerdict 8 = .ok (.iload_n 1, 1) := by decide +kernel
theorem dX4_giveVerdict_9 : decode cX4_giveVerdict 9 = .ok (.if_icmp .ne 7, 3) := by decide +kernel
theorem dX4_giveVerdict_12 : decode cX4_giveVerdict 12 = .ok (.iload_n 2, 1) := by decide +kernel
theorem dX4_giveVerdict_13 : decode cX4_giveVerdict 13 = .ok (.goto 4, 3) := by decide +kernel
theorem dX4_giveVerdict_16 : decode cX4_giveVerdict 16 = .ok (.iload_n 1, 1) := by decide +kernel
theorem dX4_giveVerdict_17 : decode cX4_giveVerdict 17 = .ok (.istore 4, 2) := by decide +kernel
theorem dX4_giveVerdict_19 : decode cX4_giveVerdict 19 = .ok (.aload_n 0, 1) := by decide +kernel
theorem dX4_giveVerdict_20 : decode cX4_giveVerdict 20 = .ok (.getfield 12, 3) := by decide +kernel
theorem dX4_giveVerdict_23 : decode cX4_giveVerdict 23 = .ok (.getfield 234, 3) := by decide +kernel
theorem dX4_giveVerdict_26 : decode cX4_giveVerdict 26 = .ok (.aload_n 0, 1) := by decide +kernel
theorem dX4_giveVerdict_27 : decode cX4_giveVerdict 27 = .ok (.getfield 21, 3) := by decide +kernel
theorem dX4_giveVerdict_30 : decode cX4_giveVerdict 30 = .ok (.getfield 92, 3) := by decide +kernel
theorem dX4_giveVerdict_33 : decode cX4_giveVerdict 33 = .ok (.iload_n 3, 1) := by decide +kernel
theorem dX4_giveVerdict_34 : decode cX4_giveVerdict 34 = .ok (.iaload, 1) := by decide +kernel
theorem dX4_giveVerdict_35 : decode cX4_giveVerdict 35 = .ok (.invokestatic 111, 3) := by decide +kernel
theorem dX4_giveVerdict_38 : decode cX4_giveVerdict 38 = .ok (.istore 5, 2) := by decide +kernel
theorem dX4_giveVerdict_40 : decode cX4_giveVerdict 40 = .ok (.aload_n 0, 1) := by decide +kernel
theorem dX4_giveVerdict_41 : decode cX4_giveVerdict 41 = .ok (.getfield 21, 3) := by decide +kernel
theorem dX4_giveVerdict_44 : decode cX4_giveVerdict 44 = .ok (.getfield 92, 3) := by decide +kernel
theorem dX4_giveVerdict_47 : decode cX4_giveVerdict 47 = .ok (.iload_n 3, 1) := by decide +kernel
theorem dX4_giveVerdict_48 : decode cX4_giveVerdict 48 = .ok (.dup2, 1) := by decide +kernel
theorem dX4_giveVerdict_49 : decode cX4_giveVerdict 49 = .ok (.iaload, 1) := by decide +kernel
theorem dX4_giveVerdict_50 : decode cX4_giveVerdict 50 = .ok (.iload 5, 2) := by decide +kernel
theorem dX4_giveVerdict_52 : decode cX4_giveVerdict 52 = .ok (.isub, 1) := by decide +kernel
theorem dX4_giveVerdict_53 : decode cX4_giveVerdict 53 = .ok (.iastore, 1) := by decide +kernel
theorem dX4_giveVerdict_54 : decode cX4_giveVerdict 54 = .ok (.aload_n 0, 1) := by decide +kernel
theorem dX4_giveVerdict_55 : decode cX4_giveVerdict 55 = .ok (.getfield 21, 3) := by decide +kernel
theorem dX4_giveVerdict_58 : decode cX4_giveVerdict 58 = .ok (.getfield 92, 3) := by decide +kernel
theorem dX4_giveVerdict_61 : decode cX4_giveVerdict 61 = .ok (.iload 4, 2) := by decide +kernel
theorem dX4_giveVerdict_63 : decode cX4_giveVerdict 63 = .ok (.dup2, 1) := by decide +kernel
theorem dX4_giveVerdict_64 : decode cX4_giveVerdict 64 = .ok (.iaload, 1) := by decide +kernel
theorem dX4_giveVerdict_65 : decode cX4_giveVerdict 65 = .ok (.iload 5, 2) := by decide +kernel
theorem dX4_giveVerdict_67 : decode cX4_giveVerdict 67 = .ok (.iadd, 1) := by decide +kernel
theorem dX4_giveVerdict_68 : decode cX4_giveVerdict 68 = .ok (.iastore, 1) := by decide +kernel
theorem dX4_giveVerdict_69 : decode cX4_giveVerdict 69 = .ok (.aload_n 0, 1) := by decide +kernel
theorem dX4_giveVerdict_70 : decode cX4_giveVerdict 70 = .ok (.getfield 21, 3) := by decide +kernel
theorem dX4_giveVerdict_73 : decode cX4_giveVerdict 73 = .ok (.getfield 101, 3) := by decide +kernel
theorem dX4_giveVerdict_76 : decode cX4_giveVerdict 76 = .ok (.iload_n 1, 1) := by decide +kernel
theorem dX4_giveVerdict_77 : decode cX4_giveVerdict 77 = .ok (.dup2, 1) := by decide +kernel
theorem dX4_giveVerdict_78 : decode cX4_giveVerdict 78 = .ok (.iaload, 1) := by decide +kernel
theorem dX4_giveVerdict_79 : decode cX4_giveVerdict 79 = .ok (.iconst 1, 1) := by decide +kernel
theorem dX4_giveVerdict_80 : decode cX4_giveVerdict 80 = .ok (.iadd, 1) := by decide +kernel
theorem dX4_giveVerdict_81 : decode cX4_giveVerdict 81 = .ok (.iastore, 1) := by decide +kernel
theorem dX4_giveVerdict_82 : decode cX4_giveVerdict 82 = .ok (.aload_n 0, 1) := by decide +kernel
theorem dX4_giveVerdict_83 : decode cX4_giveVerdict 83 = .ok (.getfield 21, 3) := by decide +kernel
theorem dX4_giveVerdict_86 : decode cX4_giveVerdict 86 = .ok (.getfield 101, 3) := by decide +kernel
theorem dX4_giveVerdict_89 : decode cX4_giveVerdict 89 = .ok (.iload_n 2, 1) := by decide +kernel
theorem dX4_giveVerdict_90 : decode cX4_giveVerdict 90 = .ok (.dup2, 1) := by decide +kernel
theorem dX4_giveVerdict_91 : decode cX4_giveVerdict 91 = .ok (.iaload, 1) := by decide +kernel
theorem dX4_giveVerdict_92 : decode cX4_giveVerdict 92 = .ok (.iconst 1, 1) := by decide +kernel
theorem dX4_giveVerdict_93 : decode cX4_giveVerdict 93 = .ok (.iadd, 1) := by decide +kernel
theorem dX4_giveVerdict_94 : decode cX4_giveVerdict 94 = .ok (.iastore, 1) := by decide +kernel
theorem dX4_giveVerdict_95 : decode cX4_giveVerdict 95 = .ok (.aload_n 0, 1) := by decide +kernel
theorem dX4_giveVerdict_96 : decode cX4_giveVerdict 96 = .ok (.getfield 32, 3) := by decide +kernel
theorem dX4_giveVerdict_99 : decode cX4_giveVerdict 99 = .ok (.iload_n 1, 1) := by decide +kernel
theorem dX4_giveVerdict_100 : decode cX4_giveVerdict 100 = .ok (.iconst 1, 1) := by decide +kernel
theorem dX4_giveVerdict_101 : decode cX4_giveVerdict 101 = .ok (.bastore, 1) := by decide +kernel
theorem dX4_giveVerdict_102 : decode cX4_giveVerdict 102 = .ok (.aload_n 0, 1) := by decide +kernel
theorem dX4_giveVerdict_103 : decode cX4_giveVerdict 103 = .ok (.getfield 32, 3) := by decide +kernel
theorem dX4_giveVerdict_106 : decode cX4_giveVerdict 106 = .ok (.iload_n 2, 1) := by decide +kernel
theorem dX4_giveVerdict_107 : decode cX4_giveVerdict 107 = .ok (.iconst 1, 1) := by decide +kernel
theorem dX4_giveVerdict_108 : decode cX4_giveVerdict 108 = .ok (.bastore, 1) := by decide +kernel
theorem dX4_giveVerdict_109 : decode cX4_giveVerdict 109 = .ok (.return_, 1) := by decide +kernel
theorem dX4_guiltyOf_0 : decode cX4_guiltyOf 0 = .ok (.aload_n 0, 1) := by decide +kernel
theorem dX4_guiltyOf_1 : decode cX4_guiltyOf 1 = .ok (.getfield 28, 3) := by decide +kernel
theorem dX4_guiltyOf_4 : decode cX4_guiltyOf 4 = .ok (.iload_n 1, 1) := by decide +kernel
theorem dX4_guiltyOf_5 : decode cX4_guiltyOf 5 = .ok (.aload_n 0, 1) := by decide +kernel
theorem dX4_guiltyOf_6 : decode cX4_guiltyOf 6 = .ok (.getfield 46, 3) := by decide +kernel
theorem dX4_guiltyOf_9 : decode cX4_guiltyOf 9 = .ok (.aload_n 0, 1) := by decide +kernel
theorem dX4_guiltyOf_10 : decode cX4_guiltyOf 10 = .ok (.getfield 46, 3) := by decide +kernel
theorem dX4_guiltyOf_13 : decode cX4_guiltyOf 13 = .ok (.iconst 1, 1) := by decide +kernel
theorem dX4_guiltyOf_14 : decode cX4_guiltyOf 14 = .ok (.iadd, 1) := by decide +kernel
theorem dX4_guiltyOf_15 : decode cX4_guiltyOf 15 = .ok (.invokevirtual 166, 3) := by decide +kernel
theorem dX4_guiltyOf_18 : decode cX4_guiltyOf 18 = .ok (.istore_n 3, 1) := by decide +kernel
theorem dX4_guiltyOf_19 : decode cX4_guiltyOf 19 = .ok (.aload_n 0, 1) := by decide +kernel
theorem dX4_guiltyOf_20 : decode cX4_guiltyOf 20 = .ok (.getfield 28, 3) := by decide +kernel
theorem dX4_guiltyOf_23 : decode cX4_guiltyOf 23 = .ok (.iload_n 2, 1) := by decide +kernel
theorem dX4_guiltyOf_24 : decode cX4_guiltyOf 24 = .ok (.aload_n 0, 1) := by decide +kernel
theorem dX4_guiltyOf_25 : decode cX4_guiltyOf 25 = .ok (.getfield 46, 3) := by decide +kernel
theorem dX4_guiltyOf_28 : decode cX4_guiltyOf 28 = .ok (.aload_n 0, 1) := by decide +kernel
theorem dX4_guiltyOf_29 : decode cX4_guiltyOf 29 = .ok (.getfield 46, 3) := by decide +kernel
theorem dX4_guiltyOf_32 : decode cX4_guiltyOf 32 = .ok (.iconst 1, 1) := by decide +kernel
theorem dX4_guiltyOf_33 : decode cX4_guiltyOf 33 = .ok (.iadd, 1) := by decide +kernel
theorem dX4_guiltyOf_34 : decode cX4_guiltyOf 34 = .ok (.invokevirtual 166, 3) := by decide +kernel
theorem dX4_guiltyOf_37 : decode cX4_guiltyOf 37 = .ok (.istore 4, 2) := by decide +kernel
theorem dX4_guiltyOf_39 : decode cX4_guiltyOf 39 = .ok (.iload_n 3, 1) := by decide +kernel
theorem dX4_guiltyOf_40 : decode cX4_guiltyOf 40 = .ok (.iload 4, 2) := by decide +kernel
theorem dX4_guiltyOf_42 : decode cX4_guiltyOf 42 = .ok (.if_icmp .eq 13, 3) := by decide +kernel
theorem dX4_guiltyOf_45 : decode cX4_guiltyOf 45 = .ok (.iload_n 3, 1) := by decide +kernel
theorem dX4_guiltyOf_46 : decode cX4_guiltyOf 46 = .ok (.ifCond .eq 7, 3) := by decide +kernel
theorem dX4_guiltyOf_49 : decode cX4_guiltyOf 49 = .ok (.iload_n 2, 1) := by decide +kernel
theorem dX4_guiltyOf_50 : decode cX4_guiltyOf 50 = .ok (.goto 4, 3) := by decide +kernel
theorem dX4_guiltyOf_53 : decode cX4_guiltyOf 53 = .ok (.iload_n 1, 1) := by decide +kernel
theorem dX4_guiltyOf_54 : decode cX4_guiltyOf 54 = .ok (.ireturn, 1) := by decide +kernel
theorem dX4_guiltyOf_55 : decode cX4_guiltyOf 55 = .ok (.aload_n 0, 1) := by decide +kernel
theorem dX4_guiltyOf_56 : decode cX4_guiltyOf 56 = .ok (.getfield 21, 3) := by decide +kernel
theorem dX4_guiltyOf_59 : decode cX4_guiltyOf 59 = .ok (.getfield 98, 3) := by decide +kernel
theorem dX4_guiltyOf_62 : decode cX4_guiltyOf 62 = .ok (.iload_n 1, 1) := by decide +kernel
theorem dX4_guiltyOf_63 : decode cX4_guiltyOf 63 = .ok (.iaload, 1) := by decide +kernel
theorem dX4_guiltyOf_64 : decode cX4_guiltyOf 64 = .ok (.aload_n 0, 1) := by decide +kernel
theorem dX4_guiltyOf_65 : decode cX4_guiltyOf 65 = .ok (.getfield 21, 3) := by decide +kernel
theorem dX4_guiltyOf_68 : decode cX4_guiltyOf 68 = .ok (.getfield 98, 3) := by decide +kernel
theorem dX4_guiltyOf_71 : decode cX4_guiltyOf 71 = .ok (.iload_n 2, 1) := by decide +kernel
theorem dX4_guiltyOf_72 : decode cX4_guiltyOf 72 = .ok (.iaload, 1) := by decide +kernel
theorem dX4_guiltyOf_73 : decode cX4_guiltyOf 73 = .ok (.if_icmp .le 7, 3) := by decide +kernel
theorem dX4_guiltyOf_76 : decode cX4_guiltyOf 76 = .ok (.iload_n 1, 1) := by decide +kernel
theorem dX4_guiltyOf_77 : decode cX4_guiltyOf 77 = .ok (.goto 4, 3) := by decide +kernel
theorem dX4_guiltyOf_80 : decode cX4_guiltyOf 80 = .ok (.iload_n 2, 1) := by decide +kernel
theorem dX4_guiltyOf_81 : decode cX4_guiltyOf 81 = .ok (.ireturn, 1) := by decide +kernel
theorem dX4_tangleCaughtKites_0 : decode cX4_tangleCaughtKites 0 = .ok (.iconst 0, 1) := by decide +kernel
theorem dX4_tangleCaughtKites_1 : decode cX4_tangleCaughtKites 1 = .ok (.istore_n 1, 1) := by decide +kernel
theorem dX4_tangleCaughtKites_2 : decode cX4_tangleCaughtKites 2 = .ok (.iload_n 1, 1) := by decide +kernel
theorem dX4_tangleCaughtKites_3 : decode cX4_tangleCaughtKites 3 = .ok (.aload_n 0, 1) := by decide +kernel
theorem dX4_tangleCaughtKites_4 : decode cX4_tangleCaughtKites 4 = .ok (.getfield 21, 3) := by decide +kernel
theorem dX4_tangleCaughtKites_7 : decode cX4_tangleCaughtKites 7 = .ok (.getfield 62, 3) := by decide +kernel
theorem dX4_tangleCaughtKites_10 : decode cX4_tangleCaughtKites 10 = .ok (.if_icmp .ge 35, 3) := by decide +kernel
theorem dX4_tangleCaughtKites_13 : decode cX4_tangleCaughtKites 13 = .ok (.aload_n 0, 1) := by decide +kernel
theorem dX4_tangleCaughtKites_14 : decode cX4_tangleCaughtKites 14 = .ok (.getfield 32, 3) := by decide +kernel
theorem dX4_tangleCaughtKites_17 : decode cX4_tangleCaughtKites 17 = .ok (.iload_n 1, 1) := by decide +kernel
theorem dX4_tangleCaughtKites_18 : decode cX4_tangleCaughtKites 18 = .ok (.baload, 1) := by decide +kernel
theorem dX4_tangleCaughtKites_19 : decode cX4_tangleCaughtKites 19 = .ok (.ifCond .eq 20, 3) := by decide +kernel
theorem dX4_tangleCaughtKites_22 : decode cX4_tangleCaughtKites 22 = .ok (.aload_n 0, 1) := by decide +kernel
theorem dX4_tangleCaughtKites_23 : decode cX4_tangleCaughtKites 23 = .ok (.getfield 21, 3) := by decide +kernel
theorem dX4_tangleCaughtKites_26 : decode cX4_tangleCaughtKites 26 = .ok (.getfield 95, 3) := by decide +kernel
theorem dX4_tangleCaughtKites_29 : decode cX4_tangleCaughtKites 29 = .ok (.iload_n 1, 1) := by decide +kernel
theorem dX4_tangleCaughtKites_30 : decode cX4_tangleCaughtKites 30 = .ok (.iconst 2, 1) := by decide +kernel
theorem dX4_tangleCaughtKites_31 : decode cX4_tangleCaughtKites 31 = .ok (.iastore, 1) := by decide +kernel
theorem dX4_tangleCaughtKites_32 : decode cX4_tangleCaughtKites 32 = .ok (.aload_n 0, 1) := by decide +kernel
theorem dX4_tangleCaughtKites_33 : decode cX4_tangleCaughtKites 33 = .ok (.getfield 32, 3) := by decide +kernel
theorem dX4_tangleCaughtKites_36 : decode cX4_tangleCaughtKites 36 = .ok (.iload_n 1, 1) := by decide +kernel
theorem dX4_tangleCaughtKites_37 : decode cX4_tangleCaughtKites 37 = .ok (.iconst 0, 1) := by decide +kernel
theorem dX4_tangleCaughtKites_38 : decode cX4_tangleCaughtKites 38 = .ok (.bastore, 1) := by decide +kernel
theorem dX4_tangleCaughtKites_39 : decode cX4_tangleCaughtKites 39 = .ok (.iinc 1 1, 3) := by decide +kernel
theorem dX4_tangleCaughtKites_42 : decode cX4_tangleCaughtKites 42 = .ok (.goto (-40), 3) := by decide +kernel
theorem dX4_tangleCaughtKites_45 : decode cX4_tangleCaughtKites 45 = .ok (.return_, 1) := by decide +kernel
theorem dX4_retie_0 : decode cX4_retie 0 = .ok (.aload_n 0, 1) := by decide +kernel
theorem dX4_retie_1 : decode cX4_retie 1 = .ok (.getfield 21, 3) := by decide +kernel
theorem dX4_retie_4 : decode cX4_retie 4 = .ok (.getfield 89, 3) := by decide +kernel
theorem dX4_retie_7 : decode cX4_retie 7 = .ok (.iload_n 1, 1) := by decide +kernel
theorem dX4_retie_8 : decode cX4_retie 8 = .ok (.iload_n 2, 1) := by decide +kernel
theorem dX4_retie_9 : decode cX4_retie 9 = .ok (.iastore, 1) := by decide +kernel
theorem dX4_retie_10 : decode cX4_retie 10 = .ok (.aload_n 0, 1) := by decide +kernel
theorem dX4_retie_11 : decode cX4_retie 11 = .ok (.getfield 28, 3) := by decide +kernel
theorem dX4_retie_14 : decode cX4_retie 14 = .ok (.iload_n 1, 1) := by decide +kernel
theorem dX4_retie_15 : decode cX4_retie 15 = .ok (.invokevirtual 237, 3) := by decide +kernel
theorem dX4_retie_18 : decode cX4_retie 18 = .ok (.pop, 1) := by decide +kernel
theorem dX4_retie_19 : decode cX4_retie 19 = .ok (.return_, 1) := by decide +kernel
theorem dX4_repairPrice_0 : decode cX4_repairPrice 0 = .ok (.iconst 2, 1) := by decide +kernel
theorem dX4_repairPrice_1 : decode cX4_repairPrice 1 = .ok (.aload_n 0, 1) := by decide +kernel
theorem dX4_repairPrice_2 : decode cX4_repairPrice 2 = .ok (.getfield 21, 3) := by decide +kernel
theorem dX4_repairPrice_5 : decode cX4_repairPrice 5 = .ok (.getfield 89, 3) := by decide +kernel
theorem dX4_repairPrice_8 : decode cX4_repairPrice 8 = .ok (.iload_n 1, 1) := by decide +kernel
theorem dX4_repairPrice_9 : decode cX4_repairPrice 9 = .ok (.iaload, 1) := by decide +kernel
theorem dX4_repairPrice_10 : decode cX4_repairPrice 10 = .ok (.imul, 1) := by decide +kernel
theorem dX4_repairPrice_11 : decode cX4_repairPrice 11 = .ok (.ireturn, 1) := by decide +kernel
theorem dX4_isRepairable_0 : decode cX4_isRepairable 0 = .ok (.aload_n 0, 1) := by decide +kernel
theorem dX4_isRepairable_1 : decode cX4_isRepairable 1 = .ok (.getfield 21, 3) := by decide +kernel
theorem dX4_isRepairable_4 : decode cX4_isRepairable 4 = .ok (.getfield 95, 3) := by decide +kernel
theorem dX4_isRepairable_7 : decode cX4_isRepairable 7 = .ok (.iload_n 1, 1) := by decide +kernel
theorem dX4_isRepairable_8 : decode cX4_isRepairable 8 = .ok (.iaload, 1) := by decide +kernel
theorem dX4_isRepairable_9 : decode cX4_isRepairable 9 = .ok (.iconst 2, 1) := by decide +kernel
theorem dX4_isRepairable_10 : decode cX4_isRepairable 10 = .ok (.if_icmp .ne 24, 3) := by decide +kernel
theorem dX4_isRepairable_13 : decode cX4_isRepairable 13 = .ok (.aload_n 0, 1) := by decide +kernel
theorem dX4_isRepairable_14 : decode cX4_isRepairable 14 = .ok (.getfield 21, 3) := by decide +kernel
theorem dX4_isRepairable_17 : decode cX4_isRepairable 17 = .ok (.getfield 92, 3) := by decide +kernel
theorem dX4_isRepairable_20 : decode cX4_isRepairable 20 = .ok (.iload_n 1, 1) := by decide +kernel
theorem dX4_isRepairable_21 : decode cX4_isRepairable 21 = .ok (.iaload, 1) := by decide +kernel
theorem dX4_isRepairable_22 : decode cX4_isRepairable 22 = .ok (.aload_n 0, 1) := by decide +kernel
theorem dX4_isRepairable_23 : decode cX4_isRepairable 23 = .ok (.iload_n 1, 1) := by decide +kernel
theorem dX4_isRepairable_24 : decode cX4_isRepairable 24 = .ok (.invokevirtual 240, 3) := by decide +kernel
theorem dX4_isRepairable_27 : decode cX4_isRepairable 27 = .ok (.if_icmp .lt 7, 3) := by decide +kernel
theorem dX4_isRepairable_30 : decode cX4_isRepairable 30 = .ok (.iconst 1, 1) := by decide +kernel
theorem dX4_isRepairable_31 : decode cX4_isRepairable 31 = .ok (.goto 4, 3) := by decide +kernel
theorem dX4_isRepairable_34 : decode cX4_isRepairable 34 = .ok (.iconst 0, 1) := by decide +kernel
theorem dX4_isRepairable_35 : decode cX4_isRepairable 35 = .ok (.ireturn, 1) := by decide +kernel
theorem dX4_mend_0 : decode cX4_mend 0 = .ok (.aload_n 0, 1) := by decide +kernel
theorem dX4_mend_1 : decode cX4_mend 1 = .ok (.iload_n 1, 1) := by decide +kernel
theorem dX4_mend_2 : decode cX4_mend 2 = .ok (.aload_n 0, 1) := by decide +kernel
theorem dX4_mend_3 : decode cX4_mend 3 = .ok (.iload_n 1, 1) := by decide +kernel
theorem dX4_mend_4 : decode cX4_mend 4 = .ok (.invokevirtual 240, 3) := by decide +kernel
theorem dX4_mend_7 : decode cX4_mend 7 = .ok (.invokevirtual 203, 3) := by decide +kernel
theorem dX4_mend_10 : decode cX4_mend 10 = .ok (.aload_n 0, 1) := by decide +kernel
theorem dX4_mend_11 : decode cX4_mend 11 = .ok (.getfield 21, 3) := by decide +kernel
theorem dX4_mend_14 : decode cX4_mend 14 = .ok (.getfield 95, 3) := by decide +kernel
theorem dX4_mend_17 : decode cX4_mend 17 = .ok (.iload_n 1, 1) := by decide +kernel
theorem dX4_mend_18 : decode cX4_mend 18 = .ok (.iconst 0, 1) := by decide +kernel
theorem dX4_mend_19 : decode cX4_mend 19 = .ok (.iastore, 1) := by decide +kernel
theorem dX4_mend_20 : decode cX4_mend 20 = .ok (.return_, 1) := by decide +kernel
theorem dX4_putCoins_0 : decode cX4_putCoins 0 = .ok (.iconst 0, 1) := by decide +kernel
theorem dX4_putCoins_1 : decode cX4_putCoins 1 = .ok (.ldc 243, 2) := by decide +kernel
theorem dX4_putCoins_3 : decode cX4_putCoins 3 = .ok (.aload_n 0, 1) := by decide +kernel
theorem dX4_putCoins_4 : decode cX4_putCoins 4 = .ok (.getfield 21, 3) := by decide +kernel
theorem dX4_putCoins_7 : decode cX4_putCoins 7 = .ok (.getfield 92, 3) := by decide +kernel
theorem dX4_putCoins_10 : decode cX4_putCoins 10 = .ok (.iload_n 1, 1) := by decide +kernel
theorem dX4_putCoins_11 : decode cX4_putCoins 11 = .ok (.iaload, 1) := by decide +kernel
theorem dX4_putCoins_12 : decode cX4_putCoins 12 = .ok (.isub, 1) := by decide +kernel
theorem dX4_putCoins_13 : decode cX4_putCoins 13 = .ok (.invokestatic 157, 3) := by decide +kernel
theorem dX4_putCoins_16 : decode cX4_putCoins 16 = .ok (.istore_n 3, 1) := by decide +kernel
theorem dX4_putCoins_17 : decode cX4_putCoins 17 = .ok (.iload_n 2, 1) := by decide +kernel
theorem dX4_putCoins_18 : decode cX4_putCoins 18 = .ok (.iload_n 3, 1) := by decide +kernel
theorem dX4_putCoins_19 : decode cX4_putCoins 19 = .ok (.invokestatic 111, 3) := by decide +kernel
theorem dX4_putCoins_22 : decode cX4_putCoins 22 = .ok (.istore 4, 2) := by decide +kernel
theorem dX4_putCoins_24 : decode cX4_putCoins 24 = .ok (.aload_n 0, 1) := by decide +kernel
theorem dX4_putCoins_25 : decode cX4_putCoins 25 = .ok (.getfield 21, 3) := by decide +kernel
theorem dX4_putCoins_28 : decode cX4_putCoins 28 = .ok (.getfield 92, 3) := by decide +kernel
theorem dX4_putCoins_31 : decode cX4_putCoins 31 = .ok (.iload_n 1, 1) := by decide +kernel
theorem dX4_putCoins_32 : decode cX4_putCoins 32 = .ok (.dup2, 1) := by decide +kernel
theorem dX4_putCoins_33 : decode cX4_putCoins 33 = .ok (.iaload, 1) := by decide +kernel
theorem dX4_putCoins_34 : decode cX4_putCoins 34 = .ok (.iload 4, 2) := by decide +kernel
theorem dX4_putCoins_36 : decode cX4_putCoins 36 = .ok (.iadd, 1) := by decide +kernel
theorem dX4_putCoins_37 : decode cX4_putCoins 37 = .ok (.iastore, 1) := by decide +kernel
theorem dX4_putCoins_38 : decode cX4_putCoins 38 = .ok (.aload_n 0, 1) := by decide +kernel
theorem dX4_putCoins_39 : decode cX4_putCoins 39 = .ok (.dup, 1) := by decide +kernel
theorem dX4_putCoins_40 : decode cX4_putCoins 40 = .ok (.getfield 53, 3) := by decide +kernel
theorem dX4_putCoins_43 : decode cX4_putCoins 43 = .ok (.iload 4, 2) := by decide +kernel
theorem dX4_putCoins_45 : decode cX4_putCoins 45 = .ok (.iadd, 1) := by decide +kernel
theorem dX4_putCoins_46 : decode cX4_putCoins 46 = .ok (.putfield 53, 3) := by decide +kernel
theorem dX4_putCoins_49 : decode cX4_putCoins 49 = .ok (.return_, 1) := by decide +kernel
theorem dX5_init_0 : decode cX5_init 0 = .ok (.aload_n 0, 1) := by decide +kernel
theorem dX5_init_1 : decode cX5_init 1 = .ok (.invokespecial 3, 3) := by decide +kernel
theorem dX5_init_4 : decode cX5_init 4 = .ok (.aload_n 0, 1) := by decide +kernel
theorem dX5_init_5 : decode cX5_init 5 = .ok (.sipush 390, 3) := by decide +kernel
theorem dX5_init_8 : decode cX5_init 8 = .ok (.newarray .int, 2) := by decide +kernel
theorem dX5_init_10 : decode cX5_init 10 = .ok (.putfield 11, 3) := by decide +kernel
theorem dX5_init_13 : decode cX5_init 13 = .ok (.return_, 1) := by decide +kernel
theorem dX6_init_0 : decode cX6_init 0 = .ok (.aload_n 0, 1) := by decide +kernel
theorem dX6_init_1 : decode cX6_init 1 = .ok (.invokespecial 3, 3) := by decide +kernel
theorem dX6_init_4 : decode cX6_init 4 = .ok (.aload_n 0, 1) := by decide +kernel
theorem dX6_init_5 : decode cX6_init 5 = .ok (.bipush 30, 2) := by decide +kernel
theorem dX6_init_7 : decode cX6_init 7 = .ok (.newarray .int, 2) := by decide +kernel
theorem dX6_init_9 : decode cX6_init 9 = .ok (.putfield 9, 3) := by decide +kernel
theorem dX6_init_12 : decode cX6_init 12 = .ok (.aload_n 0, 1) := by decide +kernel
theorem dX6_init_13 : decode cX6_init 13 = .ok (.bipush 30, 2) := by decide +kernel
theorem dX6_init_15 : decode cX6_init 15 = .ok (.newarray .int, 2) := by decide +kernel
theorem dX6_init_17 : decode cX6_init 17 = .ok (.putfield 15, 3) := by decide +kernel
theorem dX6_init_20 : decode cX6_init 20 = .ok (.aload_n 0, 1) := by decide +kernel
theorem dX6_init_21 : decode cX6_init 21 = .ok (.bipush 30, 2) := by decide +kernel
theorem dX6_init_23 : decode cX6_init 23 = .ok (.newarray .int, 2) := by decide +kernel
theorem dX6_init_25 : decode cX6_init 25 = .ok (.putfield 18, 3) := by decide +kernel
theorem dX6_init_28 : decode cX6_init 28 = .ok (.return_, 1) := by decide +kernel
theorem dX6_copyFrom_0 : decode cX6_copyFrom 0 = .ok (.aload_n 0, 1) := by decide +kernel
theorem dX6_copyFrom_1 : decode cX6_copyFrom 1 = .ok (.aload_n 1, 1) := by decide +kernel
theorem dX6_copyFrom_2 : decode cX6_copyFrom 2 = .ok (.getfield 21, 3) := by decide +kernel
theorem dX6_copyFrom_5 : decode cX6_copyFrom 5 = .ok (.putfield 21, 3) := by decide +kernel
theorem dX6_copyFrom_8 : decode cX6_copyFrom 8 = .ok (.aload_n 1, 1) := by decide +kernel
theorem dX6_copyFrom_9 : decode cX6_copyFrom 9 = .ok (.getfield 9, 3) := by decide +kernel
theorem dX6_copyFrom_12 : decode cX6_copyFrom 12 = .ok (.iconst 0, 1) := by decide +kernel
theorem dX6_copyFrom_13 : decode cX6_copyFrom 13 = .ok (.aload_n 0, 1) := by decide +kernel
theorem dX6_copyFrom_14 : decode cX6_copyFrom 14 = .ok (.getfield 9, 3) := by decide +kernel
theorem dX6_copyFrom_17 : decode cX6_copyFrom 17 = .ok (.iconst 0, 1) := by decide +kernel
theorem dX6_copyFrom_18 : decode cX6_copyFrom 18 = .ok (.bipush 30, 2) := by decide +kernel
theorem dX6_copyFrom_20 : decode cX6_copyFrom 20 = .ok (.invokestatic 25, 3) := by decide +kernel
theorem dX6_copyFrom_23 : decode cX6_copyFrom 23 = .ok (.aload_n 1, 1) := by decide +kernel
theorem dX6_copyFrom_24 : decode cX6_copyFrom 24 = .ok (.getfield 15, 3) := by decide +kernel
theorem dX6_copyFrom_27 : decode cX6_copyFrom 27 = .ok (.iconst 0, 1) := by decide +kernel
theorem dX6_copyFrom_28 : decode cX6_copyFrom 28 = .ok (.aload_n 0, 1) := by decide +kernel
theorem dX6_copyFrom_29 : decode cX6_copyFrom 29 = .ok (.getfield 15, 3) := by decide +kernel
theorem dX6_copyFrom_32 : decode cX6_copyFrom 32 = .ok (.iconst 0, 1) := by decide +kernel
theorem dX6_copyFrom_33 : decode cX6_copyFrom 33 = .ok (.bipush 30, 2) := by decide +kernel
theorem dX6_copyFrom_35 : decode cX6_copyFrom 35 = .ok (.invokestatic 25, 3) := by decide +kernel
theorem dX6_copyFrom_38 : decode cX6_copyFrom 38 = .ok (.aload_n 1, 1) := by decide +kernel
theorem dX6_copyFrom_39 : decode cX6_copyFrom 39 = .ok (.getfield 18, 3) := by decide +kernel
theorem dX6_copyFrom_42 : decode cX6_copyFrom 42 = .ok (.iconst 0, 1) := by decide +kernel
theorem dX6_copyFrom_43 : decode cX6_copyFrom 43 = .ok (.aload_n 0, 1) := by decide +kernel
theorem dX6_copyFrom_44 : decode cX6_copyFrom 44 = .ok (.getfield 18, 3) := by decide +kernel
theorem dX6_copyFrom_47 : decode cX6_copyFrom 47 = .ok (.iconst 0, 1) := by decide +kernel
theorem dX6_copyFrom_48 : decode cX6_copyFrom 48 = .ok (.bipush 30, 2) := by decide +kernel
theorem dX6_copyFrom_50 : decode cX6_copyFrom 50 = .ok (.invokestatic 25, 3) := by decide +kernel
theorem dX6_copyFrom_53 : decode cX6_copyFrom 53 = .ok (.return_, 1) := by decide +kernel
theorem dX6_add_0 : decode cX6_add 0 = .ok (.aload_n 0, 1) := by decide +kernel
theorem dX6_add_1 : decode cX6_add 1 = .ok (.getfield 21, 3) := by decide +kernel
theorem dX6_add_4 : decode cX6_add 4 = .ok (.bipush 30, 2) := by decide +kernel
theorem dX6_add_6 : decode cX6_add 6 = .ok (.if_icmp .ge 43, 3) := by decide +kernel
theorem dX6_add_9 : decode cX6_add 9 = .ok (.aload_n 0, 1) := by decide +kernel
theorem dX6_add_10 : decode cX6_add 10 = .ok (.getfield 9, 3) := by decide +kernel
theorem dX6_add_13 : decode cX6_add 13 = .ok (.aload_n 0, 1) := by decide +kernel
theorem dX6_add_14 : decode cX6_add 14 = .ok (.getfield 21, 3) := by decide +kernel
theorem dX6_add_17 : decode cX6_add 17 = .ok (.iload_n 1, 1) := by decide +kernel
theorem dX6_add_18 : decode cX6_add 18 = .ok (.iastore, 1) := by decide +kernel
theorem dX6_add_19 : decode cX6_add 19 = .ok (.aload_n 0, 1) := by decide +kernel
theorem dX6_add_20 : decode cX6_add 20 = .ok (.getfield 15, 3) := by decide +kernel
theorem dX6_add_23 : decode cX6_add 23 = .ok (.aload_n 0, 1) := by decide +kernel
theorem dX6_add_24 : decode cX6_add 24 = .ok (.getfield 21, 3) := by decide +kernel
theorem dX6_add_27 : decode cX6_add 27 = .ok (.iload_n 2, 1) := by decide +kernel
theorem dX6_add_28 : decode cX6_add 28 = .ok (.iastore, 1) := by decide +kernel
theorem dX6_add_29 : decode cX6_add 29 = .ok (.aload_n 0, 1) := by decide +kernel
theorem dX6_add_30 : decode cX6_add 30 = .ok (.getfield 18, 3) := by decide +kernel
theorem dX6_add_33 : decode cX6_add 33 = .ok (.aload_n 0, 1) := by decide +kernel
theorem dX6_add_34 : decode cX6_add 34 = .ok (.getfield 21, 3) := by decide +kernel
theorem dX6_add_37 : decode cX6_add 37 = .ok (.iload_n 3, 1) := by decide +kernel
theorem dX6_add_38 : decode cX6_add 38 = .ok (.iastore, 1) := by decide +kernel
theorem dX6_add_39 : decode cX6_add 39 = .ok (.aload_n 0, 1) := by decide +kernel
theorem dX6_add_40 : decode cX6_add 40 = .ok (.dup, 1) := by decide +kernel
theorem dX6_add_41 : decode cX6_add 41 = .ok (.getfield 21, 3) := by decide +kernel
theorem dX6_add_44 : decode cX6_add 44 = .ok (.iconst 1, 1) := by decide +kernel
theorem dX6_add_45 : decode cX6_add 45 = .ok (.iadd, 1) := by decide +kernel
theorem dX6_add_46 : decode cX6_add 46 = .ok (.putfield 21, 3) := by decide +kernel
theorem dX6_add_49 : decode cX6_add 49 = .ok (.return_, 1) := by decide +kernel
theorem dX6_endOf_0 : decode cX6_endOf 0 = .ok (.aload_n 0, 1) := by decide +kernel
theorem dX6_endOf_1 : decode cX6_endOf 1 = .ok (.getfield 15, 3) := by decide +kernel
theorem dX6_endOf_4 : decode cX6_endOf 4 = .ok (.iload_n 1, 1) := by decide +kernel
theorem dX6_endOf_5 : decode cX6_endOf 5 = .ok (.iaload, 1) := by decide +kernel
theorem dX6_endOf_6 : decode cX6_endOf 6 = .ok (.aload_n 0, 1) := by decide +kernel
theorem dX6_endOf_7 : decode cX6_endOf 7 = .ok (.getfield 18, 3) := by decide +kernel
theorem dX6_endOf_10 : decode cX6_endOf 10 = .ok (.iload_n 1, 1) := by decide +kernel
theorem dX6_endOf_11 : decode cX6_endOf 11 = .ok (.iaload, 1) := by decide +kernel
theorem dX6_endOf_12 : decode cX6_endOf 12 = .ok (.iadd, 1) := by decide +kernel
theorem dX6_endOf_13 : decode cX6_endOf 13 = .ok (.ireturn, 1) := by decide +kernel
theorem dX6_covers_0 : decode cX6_covers 0 = .ok (.aload_n 0, 1) := by decide +kernel
theorem dX6_covers_1 : decode cX6_covers 1 = .ok (.getfield 15, 3) := by decide +kernel
theorem dX6_covers_4 : decode cX6_covers 4 = .ok (.iload_n 1, 1) := by decide +kernel
theorem dX6_covers_5 : decode cX6_covers 5 = .ok (.iaload, 1) := by decide +kernel
theorem dX6_covers_6 : decode cX6_covers 6 = .ok (.iload_n 2, 1) := by decide +kernel
theorem dX6_covers_7 : decode cX6_covers 7 = .ok (.if_icmp .gt 16, 3) := by decide +kernel
theorem dX6_covers_10 : decode cX6_covers 10 = .ok (.iload_n 2, 1) := by decide +kernel
theorem dX6_covers_11 : decode cX6_covers 11 = .ok (.aload_n 0, 1) := by decide +kernel
theorem dX6_covers_12 : decode cX6_covers 12 = .ok (.iload_n 1, 1) := by decide +kernel
theorem dX6_covers_13 : decode cX6_covers 13 = .ok (.invokevirtual 31, 3) := by decide +kernel
theorem dX6_covers_16 : decode cX6_covers 16 = .ok (.if_icmp .ge 7, 3) := by decide +kernel
theorem dX6_covers_19 : decode cX6_covers 19 = .ok (.iconst 1, 1) := by decide +kernel
theorem dX6_covers_20 : decode cX6_covers 20 = .ok (.goto 4, 3) := by decide +kernel
theorem dX6_covers_23 : decode cX6_covers 23 = .ok (.iconst 0, 1) := by decide +kernel
theorem dX6_covers_24 : decode cX6_covers 24 = .ok (.ireturn, 1) := by decide +kernel
theorem dX6_coverAny_0 : decode cX6_coverAny 0 = .ok (.iconst 0, 1) := by decide +kernel
theorem dX6_coverAny_1 : decode cX6_coverAny 1 = .ok (.istore 4, 2) := by decide +kernel
theorem dX6_coverAny_3 : decode cX6_coverAny 3 = .ok (.iload 4, 2) := by decide +kernel
theorem dX6_coverAny_5 : decode cX6_coverAny 5 = .ok (.aload_n 0, 1) := by decide +kernel
theorem dX6_coverAny_6 : decode cX6_coverAny 6 = .ok (.getfield 21, 3) := by decide +kernel
theorem dX6_coverAny_9 : decode cX6_coverAny 9 = .ok (.if_icmp .ge 43, 3) := by decide +kernel
theorem dX6_coverAny_12 : decode cX6_coverAny 12 = .ok (.aload_n 0, 1) := by decide +kernel
theorem dX6_coverAny_13 : decode cX6_coverAny 13 = .ok (.getfield 9, 3) := by decide +kernel
theorem dX6_coverAny_16 : decode cX6_coverAny 16 = .ok (.iload 4, 2) := by decide +kernel
theorem dX6_coverAny_18 : decode cX6_coverAny 18 = .ok (.iaload, 1) := by decide +kernel
theorem dX6_coverAny_19 : decode cX6_coverAny 19 = .ok (.iload_n 1, 1) := by decide +kernel
theorem dX6_coverAny_20 : decode cX6_coverAny 20 = .ok (.if_icmp .ne 26, 3) := by decide +kernel
theorem dX6_coverAny_23 : decode cX6_coverAny 23 = .ok (.aload_n 0, 1) := by decide +kernel
theorem dX6_coverAny_24 : decode cX6_coverAny 24 = .ok (.getfield 15, 3) := by decide +kernel
theorem dX6_coverAny_27 : decode cX6_coverAny 27 = .ok (.iload 4, 2) := by decide +kernel
theorem dX6_coverAny_29 : decode cX6_coverAny 29 = .ok (.iaload, 1) := by decide +kernel
theorem dX6_coverAny_30 : decode cX6_coverAny 30 = .ok (.iload_n 3, 1) := by decide +kernel
theorem dX6_coverAny_31 : decode cX6_coverAny 31 = .ok (.if_icmp .ge 15, 3) := by decide +kernel
theorem dX6_coverAny_34 : decode cX6_coverAny 34 = .ok (.iload_n 2, 1) := by decide +kernel
theorem dX6_coverAny_35 : decode cX6_coverAny 35 = .ok (.aload_n 0, 1) := by decide +kernel
theorem dX6_coverAny_36 : decode cX6_coverAny 36 = .ok (.iload 4, 2) := by decide +kernel
theorem dX6_coverAny_38 : decode cX6_coverAny 38 = .ok (.invokevirtual 31, 3) := by decide +kernel
theorem dX6_coverAny_41 : decode cX6_coverAny 41 = .ok (.if_icmp .ge 5, 3) := by decide +kernel
theorem dX6_coverAny_44 : decode cX6_coverAny 44 = .ok (.iconst 1, 1) := by decide +kernel
theorem dX6_coverAny_45 : decode cX6_coverAny 45 = .ok (.ireturn, 1) := by decide +kernel
theorem dX6_coverAny_46 : decode cX6_coverAny 46 = .ok (.iinc 4 1, 3) := by decide +kernel
theorem dX6_coverAny_49 : decode cX6_coverAny 49 = .ok (.goto (-46), 3) := by decide +kernel
theorem dX6_coverAny_52 : decode cX6_coverAny 52 = .ok (.iconst 0, 1) := by decide +kernel
theorem dX6_coverAny_53 : decode cX6_coverAny 53 = .ok (.ireturn, 1) := by decide +kernel
theorem dX6_removeOf_0 : decode cX6_removeOf 0 = .ok (.iconst 0, 1) := by decide +kernel
theorem dX6_removeOf_1 : decode cX6_removeOf 1 = .ok (.istore_n 2, 1) := by decide +kernel
theorem dX6_removeOf_2 : decode cX6_removeOf 2 = .ok (.iconst 0, 1) := by decide +kernel
theorem dX6_removeOf_3 : decode cX6_removeOf 3 = .ok (.istore_n 3, 1) := by decide +kernel
theorem dX6_removeOf_4 : decode cX6_removeOf 4 = .ok (.iload_n 3, 1) := by decide +kernel
theorem dX6_removeOf_5 : decode cX6_removeOf 5 = .ok (.aload_n 0, 1) := by decide +kernel
theorem dX6_removeOf_6 : decode cX6_removeOf 6 = .ok (.getfield 21, 3) := by decide +kernel
theorem dX6_removeOf_9 : decode cX6_removeOf 9 = .ok (.if_icmp .ge 28, 3) := by decide +kernel
theorem dX6_removeOf_12 : decode cX6_removeOf 12 = .ok (.aload_n 0, 1) := by decide +kernel
theorem dX6_removeOf_13 : decode cX6_removeOf 13 = .ok (.getfield 9, 3) := by decide +kernel
theorem dX6_removeOf_16 : decode cX6_removeOf 16 = .ok (.iload_n 3, 1) := by decide +kernel
theorem dX6_removeOf_17 : decode cX6_removeOf 17 = .ok (.iaload, 1) := by decide +kernel
theorem dX6_removeOf_18 : decode cX6_removeOf 18 = .ok (.iload_n 1, 1) := by decide +kernel
theorem dX6_removeOf_19 : decode cX6_removeOf 19 = .ok (.if_icmp .eq 12, 3) := by decide +kernel
theorem dX6_removeOf_22 : decode cX6_removeOf 22 = .ok (.aload_n 0, 1) := by decide +kernel
theorem dX6_removeOf_23 : decode cX6_removeOf 23 = .ok (.iload_n 3, 1) := by decide +kernel
theorem dX6_removeOf_24 : decode cX6_removeOf 24 = .ok (.iload_n 2, 1) := by decide +kernel
theorem dX6_removeOf_25 : decode cX6_removeOf 25 = .ok (.invokevirtual 35, 3) := by decide +kernel
theorem dX6_removeOf_28 : decode cX6_removeOf 28 = .ok (.iinc 2 1, 3) := by decide +kernel
theorem dX6_removeOf_31 : decode cX6_removeOf 31 = .ok (.iinc 3 1, 3) := by decide +kernel
theorem dX6_removeOf_34 : decode cX6_removeOf 34 = .ok (.goto (-30), 3) := by decide +kernel
theorem dX6_removeOf_37 : decode cX6_removeOf 37 = .ok (.aload_n 0, 1) := by decide +kernel
theorem dX6_removeOf_38 : decode cX6_removeOf 38 = .ok (.getfield 21, 3) := by decide +kernel
theorem dX6_removeOf_41 : decode cX6_removeOf 41 = .ok (.iload_n 2, 1) := by decide +kernel
theorem dX6_removeOf_42 : decode cX6_removeOf 42 = .ok (.isub, 1) := by decide +kernel
theorem dX6_removeOf_43 : decode cX6_removeOf 43 = .ok (.istore_n 3, 1) := by decide +kernel
theorem dX6_removeOf_44 : decode cX6_removeOf 44 = .ok (.aload_n 0, 1) := by decide +kernel
theorem dX6_removeOf_45 : decode cX6_removeOf 45 = .ok (.iload_n 2, 1) := by decide +kernel
theorem dX6_removeOf_46 : decode cX6_removeOf 46 = .ok (.putfield 21, 3) := by decide +kernel
theorem dX6_removeOf_49 : decode cX6_removeOf 49 = .ok (.iload_n 3, 1) := by decide +kernel
theorem dX6_removeOf_50 : decode cX6_removeOf 50 = .ok (.ireturn, 1) := by decide +kernel
theorem dX6_removeEnded_0 : decode cX6_removeEnded 0 = .ok (.iconst 0, 1) := by decide +kernel
theorem dX6_removeEnded_1 : decode cX6_removeEnded 1 = .ok (.istore_n 2, 1) := by decide +kernel
theorem dX6_removeEnded_2 : decode cX6_removeEnded 2 = .ok (.iconst 0, 1) := by decide +kernel
theorem dX6_removeEnded_3 : decode cX6_removeEnded 3 = .ok (.istore_n 3, 1) := by decide +kernel
theorem dX6_removeEnded_4 : decode cX6_removeEnded 4 = .ok (.iload_n 3, 1) := by decide +kernel
theorem dX6_removeEnded_5 : decode cX6_removeEnded 5 = .ok (.aload_n 0, 1) := by decide +kernel
theorem dX6_removeEnded_6 : decode cX6_removeEnded 6 = .ok (.getfield 21, 3) := by decide +kernel
theorem dX6_removeEnded_9 : decode cX6_removeEnded 9 = .ok (.if_icmp .ge 27, 3) := by decide +kernel
theorem dX6_removeEnded_12 : decode cX6_removeEnded 12 = .ok (.aload_n 0, 1) := by decide +kernel
theorem dX6_removeEnded_13 : decode cX6_removeEnded 13 = .ok (.iload_n 3, 1) := by decide +kernel
theorem dX6_removeEnded_14 : decode cX6_removeEnded 14 = .ok (.invokevirtual 31, 3) := by decide +kernel
theorem dX6_removeEnded_17 : decode cX6_removeEnded 17 = .ok (.iload_n 1, 1) := by decide +kernel
theorem dX6_removeEnded_18 : decode cX6_removeEnded 18 = .ok (.if_icmp .le 12, 3) := by decide +kernel
theorem dX6_removeEnded_21 : decode cX6_removeEnded 21 = .ok (.aload_n 0, 1) := by decide +kernel
theorem dX6_removeEnded_22 : decode cX6_removeEnded 22 = .ok (.iload_n 3, 1) := by decide +kernel
theorem dX6_removeEnded_23 : decode cX6_removeEnded 23 = .ok (.iload_n 2, 1) := by decide +kernel
theorem dX6_removeEnded_24 : decode cX6_removeEnded 24 = .ok (.invokevirtual 35, 3) := by decide +kernel
theorem dX6_removeEnded_27 : decode cX6_removeEnded 27 = .ok (.iinc 2 1, 3) := by decide +kernel
theorem dX6_removeEnded_30 : decode cX6_removeEnded 30 = .ok (.iinc 3 1, 3) := by decide +kernel
theorem dX6_removeEnded_33 : decode cX6_removeEnded 33 = .ok (.goto (-29), 3) := by decide +kernel
theorem dX6_removeEnded_36 : decode cX6_removeEnded 36 = .ok (.aload_n 0, 1) := by decide +kernel
theorem dX6_removeEnded_37 : decode cX6_removeEnded 37 = .ok (.iload_n 2, 1) := by decide +kernel
theorem dX6_removeEnded_38 : decode cX6_removeEnded 38 = .ok (.putfield 21, 3) := by decide +kernel
theorem dX6_removeEnded_41 : decode cX6_removeEnded 41 = .ok (.return_, 1) := by decide +kernel
theorem dX6_move_0 : decode cX6_move 0 = .ok (.aload_n 0, 1) := by decide +kernel
theorem dX6_move_1 : decode cX6_move 1 = .ok (.getfield 9, 3) := by decide +kernel
theorem dX6_move_4 : decode cX6_move 4 = .ok (.iload_n 2, 1) := by decide +kernel
theorem dX6_move_5 : decode cX6_move 5 = .ok (.aload_n 0, 1) := by decide +kernel
theorem dX6_move_6 : decode cX6_move 6 = .ok (.getfield 9, 3) := by decide +kernel
theorem dX6_move_9 : decode cX6_move 9 = .ok (.iload_n 1, 1) := by decide +kernel
theorem dX6_move_10 : decode cX6_move 10 = .ok (.iaload, 1) := by decide +kernel
theorem dX6_move_11 : decode cX6_move 11 = .ok (.iastore, 1) := by decide +kernel
theorem dX6_move_12 : decode cX6_move 12 = .ok (.aload_n 0, 1) := by decide +kernel
theorem dX6_move_13 : decode cX6_move 13 = .ok (.getfield 15, 3) := by decide +kernel
theorem dX6_move_16 : decode cX6_move 16 = .ok (.iload_n 2, 1) := by decide +kernel
theorem dX6_move_17 : decode cX6_move 17 = .ok (.aload_n 0, 1) := by decide +kernel
theorem dX6_move_18 : decode cX6_move 18 = .ok (.getfield 15, 3) := by decide +kernel
theorem dX6_move_21 : decode cX6_move 21 = .ok (.iload_n 1, 1) := by decide +kernel
theorem dX6_move_22 : decode cX6_move 22 = .ok (.iaload, 1) := by decide +kernel
theorem dX6_move_23 : decode cX6_move 23 = .ok (.iastore, 1) := by decide +kernel
theorem dX6_move_24 : decode cX6_move 24 = .ok (.aload_n 0, 1) := by decide +kernel
theorem dX6_move_25 : decode cX6_move 25 = .ok (.getfield 18, 3) := by decide +kernel
theorem dX6_move_28 : decode cX6_move 28 = .ok (.iload_n 2, 1) := by decide +kernel
theorem dX6_move_29 : decode cX6_move 29 = .ok (.aload_n 0, 1) := by decide +kernel
theorem dX6_move_30 : decode cX6_move 30 = .ok (.getfield 18, 3) := by decide +kernel
theorem dX6_move_33 : decode cX6_move 33 = .ok (.iload_n 1, 1) := by decide +kernel
theorem dX6_move_34 : decode cX6_move 34 = .ok (.iaload, 1) := by decide +kernel
theorem dX6_move_35 : decode cX6_move 35 = .ok (.iastore, 1) := by decide +kernel
theorem dX6_move_36 : decode cX6_move 36 = .ok (.return_, 1) := by decide +kernel
theorem dX7_init_0 : decode cX7_init 0 = .ok (.aload_n 0, 1) := by decide +kernel
theorem dX7_init_1 : decode cX7_init 1 = .ok (.invokespecial 3, 3) := by decide +kernel
theorem dX7_init_4 : decode cX7_init 4 = .ok (.aload_n 0, 1) := by decide +kernel
theorem dX7_init_5 : decode cX7_init 5 = .ok (.bipush 20, 2) := by decide +kernel
theorem dX7_init_7 : decode cX7_init 7 = .ok (.newarray .int, 2) := by decide +kernel
theorem dX7_init_9 : decode cX7_init 9 = .ok (.putfield 9, 3) := by decide +kernel
theorem dX7_init_12 : decode cX7_init 12 = .ok (.aload_n 0, 1) := by decide +kernel
theorem dX7_init_13 : decode cX7_init 13 = .ok (.bipush 20, 2) := by decide +kernel
theorem dX7_init_15 : decode cX7_init 15 = .ok (.newarray .int, 2) := by decide +kernel
theorem dX7_init_17 : decode cX7_init 17 = .ok (.putfield 15, 3) := by decide +kernel
theorem dX7_init_20 : decode cX7_init 20 = .ok (.aload_n 0, 1) := by decide +kernel
theorem dX7_init_21 : decode cX7_init 21 = .ok (.bipush 20, 2) := by decide +kernel
theorem dX7_init_23 : decode cX7_init 23 = .ok (.newarray .int, 2) := by decide +kernel
theorem dX7_init_25 : decode cX7_init 25 = .ok (.putfield 18, 3) := by decide +kernel
theorem dX7_init_28 : decode cX7_init 28 = .ok (.aload_n 0, 1) := by decide +kernel
theorem dX7_init_29 : decode cX7_init 29 = .ok (.bipush 20, 2) := by decide +kernel
theorem dX7_init_31 : decode cX7_init 31 = .ok (.newarray .int, 2) := by decide +kernel
theorem dX7_init_33 : decode cX7_init 33 = .ok (.putfield 21, 3) := by decide +kernel
theorem dX7_init_36 : decode cX7_init 36 = .ok (.return_, 1) := by decide +kernel
theorem dX9_init_0 : decode cX9_init 0 = .ok (.aload_n 0, 1) := by decide +kernel
theorem dX9_init_1 : decode cX9_init 1 = .ok (.invokespecial 1, 3) := by decide +kernel
theorem dX9_init_4 : decode cX9_init 4 = .ok (.aload_n 0, 1) := by decide +kernel
theorem dX9_init_5 : decode cX9_init 5 = .ok (.invokestatic 7, 3) := by decide +kernel
theorem dX9_init_8 : decode cX9_init 8 = .ok (.putfield 13, 3) := by decide +kernel
theorem dX9_init_11 : decode cX9_init 11 = .ok (.aload_n 0, 1) := by decide +kernel
theorem dX9_init_12 : decode cX9_init 12 = .ok (.new 17, 3) := by decide +kernel
theorem dX9_init_15 : decode cX9_init 15 = .ok (.dup, 1) := by decide +kernel
theorem dX9_init_16 : decode cX9_init 16 = .ok (.invokespecial 19, 3) := by decide +kernel
theorem dX9_init_19 : decode cX9_init 19 = .ok (.putfield 20, 3) := by decide +kernel
theorem dX9_init_22 : decode cX9_init 22 = .ok (.aload_n 0, 1) := by decide +kernel
theorem dX9_init_23 : decode cX9_init 23 = .ok (.new 23, 3) := by decide +kernel
theorem dX9_init_26 : decode cX9_init 26 = .ok (.dup, 1) := by decide +kernel
theorem dX9_init_27 : decode cX9_init 27 = .ok (.invokespecial 25, 3) := by decide +kernel
theorem dX9_init_30 : decode cX9_init 30 = .ok (.putfield 26, 3) := by decide +kernel
theorem dX9_init_33 : decode cX9_init 33 = .ok (.aload_n 0, 1) := by decide +kernel
theorem dX9_init_34 : decode cX9_init 34 = .ok (.iconst 2, 1) := by decide +kernel
theorem dX9_init_35 : decode cX9_init 35 = .ok (.anewarray 17, 3) := by decide +kernel
theorem dX9_init_38 : decode cX9_init 38 = .ok (.putfield 30, 3) := by decide +kernel
theorem dX9_init_41 : decode cX9_init 41 = .ok (.iconst 0, 1) := by decide +kernel
theorem dX9_init_42 : decode cX9_init 42 = .ok (.istore_n 1, 1) := by decide +kernel
theorem dX9_init_43 : decode cX9_init 43 = .ok (.iload_n 1, 1) := by decide +kernel
theorem dX9_init_44 : decode cX9_init 44 = .ok (.iconst 2, 1) := by decide +kernel
theorem dX9_init_45 : decode cX9_init 45 = .ok (.if_icmp .ge 22, 3) := by decide +kernel
theorem dX9_init_48 : decode cX9_init 48 = .ok (.aload_n 0, 1) := by decide +kernel
theorem dX9_init_49 : decode cX9_init 49 = .ok (.getfield 30, 3) := by decide +kernel
theorem dX9_init_52 : decode cX9_init 52 = .ok (.iload_n 1, 1) := by decide +kernel
theorem dX9_init_53 : decode cX9_init 53 = .ok (.new 17, 3) := by decide +kernel
theorem dX9_init_56 : decode cX9_init 56 = .ok (.dup, 1) := by decide +kernel
theorem dX9_init_57 : decode cX9_init 57 = .ok (.invokespecial 19, 3) := by decide +kernel
theorem dX9_init_60 : decode cX9_init 60 = .ok (.aastore, 1) := by decide +kernel
theorem dX9_init_61 : decode cX9_init 61 = .ok (.iinc 1 1, 3) := by decide +kernel
theorem dX9_init_64 : decode cX9_init 64 = .ok (.goto (-21), 3) := by decide +kernel
theorem dX9_init_67 : decode cX9_init 67 = .ok (.aload_n 0, 1) := by decide +kernel
theorem dX9_init_68 : decode cX9_init 68 = .ok (.iconst 2, 1) := by decide +kernel
theorem dX9_init_69 : decode cX9_init 69 = .ok (.newarray .boolean, 2) := by decide +kernel
theorem dX9_init_71 : decode cX9_init 71 = .ok (.putfield 34, 3) := by decide +kernel
theorem dX9_init_74 : decode cX9_init 74 = .ok (.aload_n 0, 1) := by decide +kernel
theorem dX9_init_75 : decode cX9_init 75 = .ok (.new 38, 3) := by decide +kernel
theorem dX9_init_78 : decode cX9_init 78 = .ok (.dup, 1) := by decide +kernel
theorem dX9_init_79 : decode cX9_init 79 = .ok (.invokespecial 40, 3) := by decide +kernel
theorem dX9_init_82 : decode cX9_init 82 = .ok (.putfield 41, 3) := by decide +kernel
theorem dX9_init_85 : decode cX9_init 85 = .ok (.aload_n 0, 1) := by decide +kernel
theorem dX9_init_86 : decode cX9_init 86 = .ok (.new 45, 3) := by decide +kernel
theorem dX9_init_89 : decode cX9_init 89 = .ok (.dup, 1) := by decide +kernel
theorem dX9_init_90 : decode cX9_init 90 = .ok (.invokespecial 47, 3) := by decide +kernel
theorem dX9_init_93 : decode cX9_init 93 = .ok (.putfield 48, 3) := by decide +kernel
theorem dX9_init_96 : decode cX9_init 96 = .ok (.aload_n 0, 1) := by decide +kernel
theorem dX9_init_97 : decode cX9_init 97 = .ok (.new 52, 3) := by decide +kernel
theorem dX9_init_100 : decode cX9_init 100 = .ok (.dup, 1) := by decide +kernel
theorem dX9_init_101 : decode cX9_init 101 = .ok (.invokespecial 54, 3) := by decide +kernel
theorem dX9_init_104 : decode cX9_init 104 = .ok (.putfield 55, 3) := by decide +kernel
theorem dX9_init_107 : decode cX9_init 107 = .ok (.return_, 1) := by decide +kernel
theorem dX9_firstOffice_0 : decode cX9_firstOffice 0 = .ok (.new 17, 3) := by decide +kernel
theorem dX9_firstOffice_3 : decode cX9_firstOffice 3 = .ok (.dup, 1) := by decide +kernel
theorem dX9_firstOffice_4 : decode cX9_firstOffice 4 = .ok (.invokespecial 19, 3) := by decide +kernel
theorem dX9_firstOffice_7 : decode cX9_firstOffice 7 = .ok (.astore_n 0, 1) := by decide +kernel
theorem dX9_firstOffice_8 : decode cX9_firstOffice 8 = .ok (.aload_n 0, 1) := by decide +kernel
theorem dX9_firstOffice_9 : decode cX9_firstOffice 9 = .ok (.getfield 59, 3) := by decide +kernel
theorem dX9_firstOffice_12 : decode cX9_firstOffice 12 = .ok (.bipush 40, 2) := by decide +kernel
theorem dX9_firstOffice_14 : decode cX9_firstOffice 14 = .ok (.putfield 63, 3) := by decide +kernel
theorem dX9_firstOffice_17 : decode cX9_firstOffice 17 = .ok (.aload_n 0, 1) := by decide +kernel
theorem dX9_firstOffice_18 : decode cX9_firstOffice 18 = .ok (.getfield 59, 3) := by decide +kernel
theorem dX9_firstOffice_21 : decode cX9_firstOffice 21 = .ok (.bipush 30, 2) := by decide +kernel
theorem dX9_firstOffice_23 : decode cX9_firstOffice 23 = .ok (.putfield 69, 3) := by decide +kernel
theorem dX9_firstOffice_26 : decode cX9_firstOffice 26 = .ok (.aload_n 0, 1) := by decide +kernel
theorem dX9_firstOffice_27 : decode cX9_firstOffice 27 = .ok (.getfield 59, 3) := by decide +kernel
theorem dX9_firstOffice_30 : decode cX9_firstOffice 30 = .ok (.iconst 2, 1) := by decide +kernel
theorem dX9_firstOffice_31 : decode cX9_firstOffice 31 = .ok (.putfield 72, 3) := by decide +kernel
theorem dX9_firstOffice_34 : decode cX9_firstOffice 34 = .ok (.aload_n 0, 1) := by decide +kernel
theorem dX9_firstOffice_35 : decode cX9_firstOffice 35 = .ok (.getfield 59, 3) := by decide +kernel
theorem dX9_firstOffice_38 : decode cX9_firstOffice 38 = .ok (.bipush 10, 2) := by decide +kernel
theorem dX9_firstOffice_40 : decode cX9_firstOffice 40 = .ok (.putfield 75, 3) := by decide +kernel
theorem dX9_firstOffice_43 : decode cX9_firstOffice 43 = .ok (.aload_n 0, 1) := by decide +kernel
theorem dX9_firstOffice_44 : decode cX9_firstOffice 44 = .ok (.getfield 59, 3) := by decide +kernel
theorem dX9_firstOffice_47 : decode cX9_firstOffice 47 = .ok (.invokevirtual 78, 3) := by decide +kernel
theorem dX9_firstOffice_50 : decode cX9_firstOffice 50 = .ok (.aload_n 0, 1) := by decide +kernel
theorem dX9_firstOffice_51 : decode cX9_firstOffice 51 = .ok (.getfield 59, 3) := by decide +kernel
theorem dX9_firstOffice_54 : decode cX9_firstOffice 54 = .ok (.iconst 2, 1) := by decide +kernel
theorem dX9_firstOffice_55 : decode cX9_firstOffice 55 = .ok (.iconst 3, 1) := by decide +kernel
theorem dX9_firstOffice_56 : decode cX9_firstOffice 56 = .ok (.invokevirtual 81, 3) := by decide +kernel
theorem dX9_firstOffice_59 : decode cX9_firstOffice 59 = .ok (.aload_n 0, 1) := by decide +kernel
theorem dX9_firstOffice_60 : decode cX9_firstOffice 60 = .ok (.getfield 59, 3) := by decide +kernel
theorem dX9_firstOffice_63 : decode cX9_firstOffice 63 = .ok (.iconst 0, 1) := by decide +kernel
theorem dX9_firstOffice_64 : decode cX9_firstOffice 64 = .ok (.iconst 5, 1) := by decide +kernel
theorem dX9_firstOffice_65 : decode cX9_firstOffice 65 = .ok (.invokevirtual 81, 3) := by decide +kernel
theorem dX9_firstOffice_68 : decode cX9_firstOffice 68 = .ok (.aload_n 0, 1) := by decide +kernel
theorem dX9_firstOffice_69 : decode cX9_firstOffice 69 = .ok (.getfield 59, 3) := by decide +kernel
theorem dX9_firstOffice_72 : decode cX9_firstOffice 72 = .ok (.invokevirtual 78, 3) := by decide +kernel
theorem dX9_firstOffice_75 : decode cX9_firstOffice 75 = .ok (.aload_n 0, 1) := by decide +kernel
theorem dX9_firstOffice_76 : decode cX9_firstOffice 76 = .ok (.getfield 59, 3) := by decide +kernel
theorem dX9_firstOffice_79 : decode cX9_firstOffice 79 = .ok (.bipush 6, 2) := by decide +kernel
theorem dX9_firstOffice_81 : decode cX9_firstOffice 81 = .ok (.iconst 4, 1) := by decide +kernel
theorem dX9_firstOffice_82 : decode cX9_firstOffice 82 = .ok (.invokevirtual 81, 3) := by decide +kernel
theorem dX9_firstOffice_85 : decode cX9_firstOffice 85 = .ok (.aload_n 0, 1) := by decide +kernel
theorem dX9_firstOffice_86 : decode cX9_firstOffice 86 = .ok (.getfield 59, 3) := by decide +kernel
theorem dX9_firstOffice_89 : decode cX9_firstOffice 89 = .ok (.iconst 2, 1) := by decide +kernel
theorem dX9_firstOffice_90 : decode cX9_firstOffice 90 = .ok (.invokevirtual 85, 3) := by decide +kernel
theorem dX9_firstOffice_93 : decode cX9_firstOffice 93 = .ok (.aload_n 0, 1) := by decide +kernel
theorem dX9_firstOffice_94 : decode cX9_firstOffice 94 = .ok (.getfield 59, 3) := by decide +kernel
theorem dX9_firstOffice_97 : decode cX9_firstOffice 97 = .ok (.iconst 1, 1) := by decide +kernel
theorem dX9_firstOffice_98 : decode cX9_firstOffice 98 = .ok (.invokevirtual 85, 3) := by decide +kernel
theorem dX9_firstOffice_101 : decode cX9_firstOffice 101 = .ok (.aload_n 0, 1) := by decide +kernel
theorem dX9_firstOffice_102 : decode cX9_firstOffice 102 = .ok (.iconst 5, 1) := by decide +kernel
theorem dX9_firstOffice_103 : decode cX9_firstOffice 103 = .ok (.bipush 10, 2) := by decide +kernel
theorem dX9_firstOffice_105 : decode cX9_firstOffice 105 = .ok (.bipush 10, 2) := by decide +kernel
theorem dX9_firstOffice_107 : decode cX9_firstOffice 107 = .ok (.iconst 0, 1) := by decide +kernel
theorem dX9_firstOffice_108 : decode cX9_firstOffice 108 = .ok (.iconst 0, 1) := by decide +kernel
theorem dX9_firstOffice_109 : decode cX9_firstOffice 109 = .ok (.bipush 50, 2) := by decide +kernel
theorem dX9_firstOffice_111 : decode cX9_firstOffice 111 = .ok (.invokevirtual 89, 3) := by decide +kernel
theorem dX9_firstOffice_114 : decode cX9_firstOffice 114 = .ok (.pop, 1) := by decide +kernel
theorem dX9_firstOffice_115 : decode cX9_firstOffice 115 = .ok (.aload_n 0, 1) := by decide +kernel
theorem dX9_firstOffice_116 : decode cX9_firstOffice 116 = .ok (.bipush 15, 2) := by decide +kernel
theorem dX9_firstOffice_118 : decode cX9_firstOffice 118 = .ok (.bipush 8, 2) := by decide +kernel
theorem dX9_firstOffice_120 : decode cX9_firstOffice 120 = .ok (.bipush 10, 2) := by decide +kernel
theorem dX9_firstOffice_122 : decode cX9_firstOffice 122 = .ok (.iconst 0, 1) := by decide +kernel
theorem dX9_firstOffice_123 : decode cX9_firstOffice 123 = .ok (.iconst 1, 1) := by decide +kernel
theorem dX9_firstOffice_124 : decode cX9_firstOffice 124 = .ok (.bipush 40, 2) := by decide +kernel
theorem dX9_firstOffice_126 : decode cX9_firstOffice 126 = .ok (.invokevirtual 89, 3) := by decide +kernel
theorem dX9_firstOffice_129 : decode cX9_firstOffice 129 = .ok (.pop, 1) := by decide +kernel
theorem dX9_firstOffice_130 : decode cX9_firstOffice 130 = .ok (.aload_n 0, 1) := by decide +kernel
theorem dX9_firstOffice_131 : decode cX9_firstOffice 131 = .ok (.bipush 34, 2) := by decide +kernel
theorem dX9_firstOffice_133 : decode cX9_firstOffice 133 = .ok (.bipush 10, 2) := by decide +kernel
theorem dX9_firstOffice_135 : decode cX9_firstOffice 135 = .ok (.bipush 15, 2) := by decide +kernel
theorem dX9_firstOffice_137 : decode cX9_firstOffice 137 = .ok (.iconst 1, 1) := by decide +kernel
theorem dX9_firstOffice_138 : decode cX9_firstOffice 138 = .ok (.iconst 1, 1) := by decide +kernel
theorem dX9_firstOffice_139 : decode cX9_firstOffice 139 = .ok (.bipush 30, 2) := by decide +kernel
theorem dX9_firstOffice_141 : decode cX9_firstOffice 141 = .ok (.invokevirtual 89, 3) := by decide +kernel
theorem dX9_firstOffice_144 : decode cX9_firstOffice 144 = .ok (.pop, 1) := by decide +kernel
theorem dX9_firstOffice_145 : decode cX9_firstOffice 145 = .ok (.aload_n 0, 1) := by decide +kernel
theorem dX9_firstOffice_146 : decode cX9_firstOffice 146 = .ok (.bipush 22, 2) := by decide +kernel
theorem dX9_firstOffice_148 : decode cX9_firstOffice 148 = .ok (.bipush 10, 2) := by decide +kernel
theorem dX9_firstOffice_150 : decode cX9_firstOffice 150 = .ok (.bipush 20, 2) := by decide +kernel
theorem dX9_firstOffice_152 : decode cX9_firstOffice 152 = .ok (.iconst 0, 1) := by decide +kernel
theorem dX9_firstOffice_153 : decode cX9_firstOffice 153 = .ok (.iconst 0, 1) := by decide +kernel
theorem dX9_firstOffice_154 : decode cX9_firstOffice 154 = .ok (.iconst 0, 1) := by decide +kernel
theorem dX9_firstOffice_155 : decode cX9_firstOffice 155 = .ok (.invokevirtual 89, 3) := by decide +kernel
theorem dX9_firstOffice_158 : decode cX9_firstOffice 158 = .ok (.pop, 1) := by decide +kernel
theorem dX9_firstOffice_159 : decode cX9_firstOffice 159 = .ok (.aload_n 0, 1) := by decide +kernel
theorem dX9_firstOffice_160 : decode cX9_firstOffice 160 = .ok (.areturn, 1) := by decide +kernel
theorem dX9_addKite_0 : decode cX9_addKite 0 = .ok (.aload_n 0, 1) := by decide +kernel
theorem dX9_addKite_1 : decode cX9_addKite 1 = .ok (.iload 4, 2) := by decide +kernel
theorem dX9_addKite_3 : decode cX9_addKite 3 = .ok (.invokevirtual 224, 3) := by decide +kernel
theorem dX9_addKite_6 : decode cX9_addKite 6 = .ok (.iload_n 1, 1) := by decide +kernel
theorem dX9_addKite_7 : decode cX9_addKite 7 = .ok (.iconst 0, 1) := by decide +kernel
theorem dX9_addKite_8 : decode cX9_addKite 8 = .ok (.aload_n 0, 1) := by decide +kernel
theorem dX9_addKite_9 : decode cX9_addKite 9 = .ok (.getfield 13, 3) := by decide +kernel
theorem dX9_addKite_12 : decode cX9_addKite 12 = .ok (.getfield 59, 3) := by decide +kernel
theorem dX9_addKite_15 : decode cX9_addKite 15 = .ok (.getfield 63, 3) := by decide +kernel
theorem dX9_addKite_18 : decode cX9_addKite 18 = .ok (.iconst 1, 1) := by decide +kernel
theorem dX9_addKite_19 : decode cX9_addKite 19 = .ok (.isub, 1) := by decide +kernel
theorem dX9_addKite_20 : decode cX9_addKite 20 = .ok (.invokestatic 110, 3) := by decide +kernel
theorem dX9_addKite_23 : decode cX9_addKite 23 = .ok (.iload_n 2, 1) := by decide +kernel
theorem dX9_addKite_24 : decode cX9_addKite 24 = .ok (.iconst 0, 1) := by decide +kernel
theorem dX9_addKite_25 : decode cX9_addKite 25 = .ok (.aload_n 0, 1) := by decide +kernel
theorem dX9_addKite_26 : decode cX9_addKite 26 = .ok (.getfield 13, 3) := by decide +kernel
theorem dX9_addKite_29 : decode cX9_addKite 29 = .ok (.getfield 59, 3) := by decide +kernel
theorem dX9_addKite_32 : decode cX9_addKite 32 = .ok (.getfield 69, 3) := by decide +kernel
theorem dX9_addKite_35 : decode cX9_addKite 35 = .ok (.iconst 1, 1) := by decide +kernel
theorem dX9_addKite_36 : decode cX9_addKite 36 = .ok (.isub, 1) := by decide +kernel
theorem dX9_addKite_37 : decode cX9_addKite 37 = .ok (.invokestatic 110, 3) := by decide +kernel
theorem dX9_addKite_40 : decode cX9_addKite 40 = .ok (.iload_n 3, 1) := by decide +kernel
theorem dX9_addKite_41 : decode cX9_addKite 41 = .ok (.iconst 1, 1) := by decide +kernel
theorem dX9_addKite_42 : decode cX9_addKite 42 = .ok (.bipush 60, 2) := by decide +kernel
theorem dX9_addKite_44 : decode cX9_addKite 44 = .ok (.invokestatic 110, 3) := by decide +kernel
theorem dX9_addKite_47 : decode cX9_addKite 47 = .ok (.iload 5, 2) := by decide +kernel
theorem dX9_addKite_49 : decode cX9_addKite 49 = .ok (.iconst 0, 1) := by decide +kernel
theorem dX9_addKite_50 : decode cX9_addKite 50 = .ok (.bipush 9, 2) := by decide +kernel
theorem dX9_addKite_52 : decode cX9_addKite 52 = .ok (.invokestatic 110, 3) := by decide +kernel
theorem dX9_addKite_55 : decode cX9_addKite 55 = .ok (.iload 6, 2) := by decide +kernel
theorem dX9_addKite_57 : decode cX9_addKite 57 = .ok (.iconst 0, 1) := by decide +kernel
theorem dX9_addKite_58 : decode cX9_addKite 58 = .ok (.sipush 999, 3) := by decide +kernel
theorem dX9_addKite_61 : decode cX9_addKite 61 = .ok (.invokestatic 110, 3) := by decide +kernel
theorem dX9_addKite_64 : decode cX9_addKite 64 = .ok (.aload_n 0, 1) := by decide +kernel
theorem dX9_addKite_65 : decode cX9_addKite 65 = .ok (.getfield 13, 3) := by decide +kernel
theorem dX9_addKite_68 : decode cX9_addKite 68 = .ok (.getfield 141, 3) := by decide +kernel
theorem dX9_addKite_71 : decode cX9_addKite 71 = .ok (.getfield 145, 3) := by decide +kernel
theorem dX9_addKite_74 : decode cX9_addKite 74 = .ok (.bipush 16, 2) := by decide +kernel
theorem dX9_addKite_76 : decode cX9_addKite 76 = .ok (.if_icmp .lt 13, 3) := by decide +kernel
theorem dX9_addKite_79 : decode cX9_addKite 79 = .ok (.new 97, 3) := by decide +kernel
theorem dX9_addKite_82 : decode cX9_addKite 82 = .ok (.dup, 1) := by decide +kernel
theorem dX9_addKite_83 : decode cX9_addKite 83 = .ok (.ldc 227, 2) := by decide +kernel
theorem dX9_addKite_85 : decode cX9_addKite 85 = .ok (.invokespecial 101, 3) := by decide +kernel
theorem dX9_addKite_88 : decode cX9_addKite 88 = .ok (.athrow, 1) := by decide +kernel
theorem dX9_addKite_89 : decode cX9_addKite 89 = .ok (.aload_n 0, 1) := by decide +kernel
theorem dX9_addKite_90 : decode cX9_addKite 90 = .ok (.getfield 26, 3) := by decide +kernel
theorem dX9_addKite_93 : decode cX9_addKite 93 = .ok (.aload_n 0, 1) := by decide +kernel
theorem dX9_addKite_94 : decode cX9_addKite 94 = .ok (.getfield 13, 3) := by decide +kernel
theorem dX9_addKite_97 : decode cX9_addKite 97 = .ok (.invokevirtual 134, 3) := by decide +kernel
theorem dX9_addKite_100 : decode cX9_addKite 100 = .ok (.aload_n 0, 1) := by decide +kernel
theorem dX9_addKite_101 : decode cX9_addKite 101 = .ok (.getfield 13, 3) := by decide +kernel
theorem dX9_addKite_104 : decode cX9_addKite 104 = .ok (.iload_n 1, 1) := by decide +kernel
theorem dX9_addKite_105 : decode cX9_addKite 105 = .ok (.iload_n 2, 1) := by decide +kernel
theorem dX9_addKite_106 : decode cX9_addKite 106 = .ok (.iload_n 3, 1) := by decide +kernel
theorem dX9_addKite_107 : decode cX9_addKite 107 = .ok (.iload 4, 2) := by decide +kernel
theorem dX9_addKite_109 : decode cX9_addKite 109 = .ok (.iload 5, 2) := by decide +kernel
theorem dX9_addKite_111 : decode cX9_addKite 111 = .ok (.iload 6, 2) := by decide +kernel
theorem dX9_addKite_113 : decode cX9_addKite 113 = .ok (.invokevirtual 89, 3) := by decide +kernel
theorem dX9_addKite_116 : decode cX9_addKite 116 = .ok (.ireturn, 1) := by decide +kernel
theorem dX9_launch_0 : decode cX9_launch 0 = .ok (.aload_n 0, 1) := by decide +kernel
theorem dX9_launch_1 : decode cX9_launch 1 = .ok (.iload_n 1, 1) := by decide +kernel
theorem dX9_launch_2 : decode cX9_launch 2 = .ok (.invokevirtual 229, 3) := by decide +kernel
theorem dX9_launch_5 : decode cX9_launch 5 = .ok (.aload_n 0, 1) := by decide +kernel
theorem dX9_launch_6 : decode cX9_launch 6 = .ok (.getfield 13, 3) := by decide +kernel
theorem dX9_launch_9 : decode cX9_launch 9 = .ok (.iload_n 1, 1) := by decide +kernel
theorem dX9_launch_10 : decode cX9_launch 10 = .ok (.invokevirtual 174, 3) := by decide +kernel
theorem dX9_launch_13 : decode cX9_launch 13 = .ok (.ifCond .ne 13, 3) := by decide +kernel
theorem dX9_launch_16 : decode cX9_launch 16 = .ok (.new 97, 3) := by decide +kernel
theorem dX9_launch_19 : decode cX9_launch 19 = .ok (.dup, 1) := by decide +kernel
theorem dX9_launch_20 : decode cX9_launch 20 = .ok (.ldc 232, 2) := by decide +kernel
theorem dX9_launch_22 : decode cX9_launch 22 = .ok (.invokespecial 101, 3) := by decide +kernel
theorem dX9_launch_25 : decode cX9_launch 25 = .ok (.athrow, 1) := by decide +kernel
theorem dX9_launch_26 : decode cX9_launch 26 = .ok (.aload_n 0, 1) := by decide +kernel
theorem dX9_launch_27 : decode cX9_launch 27 = .ok (.getfield 26, 3) := by decide +kernel
theorem dX9_launch_30 : decode cX9_launch 30 = .ok (.aload_n 0, 1) := by decide +kernel
theorem dX9_launch_31 : decode cX9_launch 31 = .ok (.getfield 13, 3) := by decide +kernel
theorem dX9_launch_34 : decode cX9_launch 34 = .ok (.invokevirtual 134, 3) := by decide +kernel
theorem dX9_launch_37 : decode cX9_launch 37 = .ok (.aload_n 0, 1) := by decide +kernel
theorem dX9_launch_38 : decode cX9_launch 38 = .ok (.getfield 13, 3) := by decide +kernel
theorem dX9_launch_41 : decode cX9_launch 41 = .ok (.iload_n 1, 1) := by decide +kernel
theorem dX9_launch_42 : decode cX9_launch 42 = .ok (.invokevirtual 193, 3) := by decide +kernel
theorem dX9_launch_45 : decode cX9_launch 45 = .ok (.aload_n 0, 1) := by decide +kernel
theorem dX9_launch_46 : decode cX9_launch 46 = .ok (.getfield 13, 3) := by decide +kernel
theorem dX9_launch_49 : decode cX9_launch 49 = .ok (.iload_n 1, 1) := by decide +kernel
theorem dX9_launch_50 : decode cX9_launch 50 = .ok (.aload_n 0, 1) := by decide +kernel
theorem dX9_launch_51 : decode cX9_launch 51 = .ok (.getfield 13, 3) := by decide +kernel
theorem dX9_launch_54 : decode cX9_launch 54 = .ok (.getfield 234, 3) := by decide +kernel
theorem dX9_launch_57 : decode cX9_launch 57 = .ok (.invokevirtual 237, 3) := by decide +kernel
theorem dX9_launch_60 : decode cX9_launch 60 = .ok (.ireturn, 1) := by decide +kernel
theorem dX9_land_0 : decode cX9_land 0 = .ok (.aload_n 0, 1) := by decide +kernel
theorem dX9_land_1 : decode cX9_land 1 = .ok (.iload_n 1, 1) := by decide +kernel
theorem dX9_land_2 : decode cX9_land 2 = .ok (.invokevirtual 229, 3) := by decide +kernel
theorem dX9_land_5 : decode cX9_land 5 = .ok (.aload_n 0, 1) := by decide +kernel
theorem dX9_land_6 : decode cX9_land 6 = .ok (.iload_n 1, 1) := by decide +kernel
theorem dX9_land_7 : decode cX9_land 7 = .ok (.iconst 1, 1) := by decide +kernel
theorem dX9_land_8 : decode cX9_land 8 = .ok (.invokevirtual 241, 3) := by decide +kernel
theorem dX9_land_11 : decode cX9_land 11 = .ok (.aload_n 0, 1) := by decide +kernel
theorem dX9_land_12 : decode cX9_land 12 = .ok (.getfield 26, 3) := by decide +kernel
theorem dX9_land_15 : decode cX9_land 15 = .ok (.aload_n 0, 1) := by decide +kernel
theorem dX9_land_16 : decode cX9_land 16 = .ok (.getfield 13, 3) := by decide +kernel
theorem dX9_land_19 : decode cX9_land 19 = .ok (.invokevirtual 134, 3) := by decide +kernel
theorem dX9_land_22 : decode cX9_land 22 = .ok (.aload_n 0, 1) := by decide +kernel
theorem dX9_land_23 : decode cX9_land 23 = .ok (.getfield 13, 3) := by decide +kernel
theorem dX9_land_26 : decode cX9_land 26 = .ok (.iload_n 1, 1) := by decide +kernel
theorem dX9_land_27 : decode cX9_land 27 = .ok (.invokevirtual 196, 3) := by decide +kernel
theorem dX9_land_30 : decode cX9_land 30 = .ok (.aload_n 0, 1) := by decide +kernel
theorem dX9_land_31 : decode cX9_land 31 = .ok (.getfield 13, 3) := by decide +kernel
theorem dX9_land_34 : decode cX9_land 34 = .ok (.getfield 141, 3) := by decide +kernel
theorem dX9_land_37 : decode cX9_land 37 = .ok (.iconst 1, 1) := by decide +kernel
theorem dX9_land_38 : decode cX9_land 38 = .ok (.invokevirtual 244, 3) := by decide +kernel
theorem dX9_land_41 : decode cX9_land 41 = .ok (.ireturn, 1) := by decide +kernel
theorem dX9_passHours_0 : decode cX9_passHours 0 = .ok (.iload_n 1, 1) := by decide +kernel
theorem dX9_passHours_1 : decode cX9_passHours 1 = .ok (.iconst 1, 1) := by decide +kernel
theorem dX9_passHours_2 : decode cX9_passHours 2 = .ok (.bipush 48, 2) := by decide +kernel
theorem dX9_passHours_4 : decode cX9_passHours 4 = .ok (.invokestatic 110, 3) := by decide +kernel
theorem dX9_passHours_7 : decode cX9_passHours 7 = .ok (.aload_n 0, 1) := by decide +kernel
theorem dX9_passHours_8 : decode cX9_passHours 8 = .ok (.getfield 26, 3) := by decide +kernel
theorem dX9_passHours_11 : decode cX9_passHours 11 = .ok (.aload_n 0, 1) := by decide +kernel
theorem dX9_passHours_12 : decode cX9_passHours 12 = .ok (.getfield 13, 3) := by decide +kernel
theorem dX9_passHours_15 : decode cX9_passHours 15 = .ok (.invokevirtual 134, 3) := by decide +kernel
theorem dX9_passHours_18 : decode cX9_passHours 18 = .ok (.aload_n 0, 1) := by decide +kernel
theorem dX9_passHours_19 : decode cX9_passHours 19 = .ok (.getfield 13, 3) := by decide +kernel
theorem dX9_passHours_22 : decode cX9_passHours 22 = .ok (.iload_n 1, 1) := by decide +kernel
theorem dX9_passHours_23 : decode cX9_passHours 23 = .ok (.invokevirtual 199, 3) := by decide +kernel
theorem dX9_passHours_26 : decode cX9_passHours 26 = .ok (.ireturn, 1) := by decide +kernel
theorem dX9_permit_0 : decode cX9_permit 0 = .ok (.aload_n 0, 1) := by decide +kernel
theorem dX9_permit_1 : decode cX9_permit 1 = .ok (.iload_n 1, 1) := by decide +kernel
theorem dX9_permit_2 : decode cX9_permit 2 = .ok (.iload_n 2, 1) := by decide +kernel
theorem dX9_permit_3 : decode cX9_permit 3 = .ok (.iload_n 3, 1) := by decide +kernel
theorem dX9_permit_4 : decode cX9_permit 4 = .ok (.invokevirtual 247, 3) := by decide +kernel
theorem dX9_permit_7 : decode cX9_permit 7 = .ok (.aload_n 0, 1) := by decide +kernel
theorem dX9_permit_8 : decode cX9_permit 8 = .ok (.getfield 13, 3) := by decide +kernel
theorem dX9_permit_11 : decode cX9_permit 11 = .ok (.iload_n 1, 1) := by decide +kernel
theorem dX9_permit_12 : decode cX9_permit 12 = .ok (.iload_n 2, 1) := by decide +kernel
theorem dX9_permit_13 : decode cX9_permit 13 = .ok (.iload_n 3, 1) := by decide +kernel
theorem dX9_permit_14 : decode cX9_permit 14 = .ok (.invokevirtual 186, 3) := by decide +kernel
theorem dX9_permit_17 : decode cX9_permit 17 = .ok (.ifCond .eq 13, 3) := by decide +kernel
theorem dX9_permit_20 : decode cX9_permit 20 = .ok (.new 97, 3) := by decide +kernel
theorem dX9_permit_23 : decode cX9_permit 23 = .ok (.dup, 1) := by decide +kernel
theorem dX9_permit_24 : decode cX9_permit 24 = .ok (.ldc 250, 2) := by decide +kernel
theorem dX9_permit_26 : decode cX9_permit 26 = .ok (.invokespecial 101, 3) := by decide +kernel
theorem dX9_permit_29 : decode cX9_permit 29 = .ok (.athrow, 1) := by decide +kernel
theorem dX9_permit_30 : decode cX9_permit 30 = .ok (.aload_n 0, 1) := by decide +kernel
theorem dX9_permit_31 : decode cX9_permit 31 = .ok (.getfield 26, 3) := by decide +kernel
theorem dX9_permit_34 : decode cX9_permit 34 = .ok (.aload_n 0, 1) := by decide +kernel
theorem dX9_permit_35 : decode cX9_permit 35 = .ok (.getfield 13, 3) := by decide +kernel
theorem dX9_permit_38 : decode cX9_permit 38 = .ok (.invokevirtual 134, 3) := by decide +kernel
theorem dX9_permit_41 : decode cX9_permit 41 = .ok (.aload_n 0, 1) := by decide +kernel
theorem dX9_permit_42 : decode cX9_permit 42 = .ok (.getfield 13, 3) := by decide +kernel
theorem dX9_permit_45 : decode cX9_permit 45 = .ok (.iload_n 1, 1) := by decide +kernel
theorem dX9_permit_46 : decode cX9_permit 46 = .ok (.iload_n 2, 1) := by decide +kernel
theorem dX9_permit_47 : decode cX9_permit 47 = .ok (.iload_n 3, 1) := by decide +kernel
theorem dX9_permit_48 : decode cX9_permit 48 = .ok (.invokevirtual 203, 3) := by decide +kernel
theorem dX9_permit_51 : decode cX9_permit 51 = .ok (.aload_n 0, 1) := by decide +kernel
theorem dX9_permit_52 : decode cX9_permit 52 = .ok (.getfield 13, 3) := by decide +kernel
theorem dX9_permit_55 : decode cX9_permit 55 = .ok (.getfield 206, 3) := by decide +kernel
theorem dX9_permit_58 : decode cX9_permit 58 = .ok (.getfield 252, 3) := by decide +kernel
theorem dX9_permit_61 : decode cX9_permit 61 = .ok (.ireturn, 1) := by decide +kernel
theorem dX9_tieKnots_0 : decode cX9_tieKnots 0 = .ok (.aload_n 0, 1) := by decide +kernel
theorem dX9_tieKnots_1 : decode cX9_tieKnots 1 = .ok (.iload_n 1, 1) := by decide +kernel
theorem dX9_tieKnots_2 : decode cX9_tieKnots 2 = .ok (.invokevirtual 229, 3) := by decide +kernel
theorem dX9_tieKnots_5 : decode cX9_tieKnots 5 = .ok (.iload_n 2, 1) := by decide +kernel
theorem dX9_tieKnots_6 : decode cX9_tieKnots 6 = .ok (.iconst 0, 1) := by decide +kernel
theorem dX9_tieKnots_7 : decode cX9_tieKnots 7 = .ok (.bipush 9, 2) := by decide +kernel
theorem dX9_tieKnots_9 : decode cX9_tieKnots 9 = .ok (.invokestatic 110, 3) := by decide +kernel
theorem dX9_tieKnots_12 : decode cX9_tieKnots 12 = .ok (.aload_n 0, 1) := by decide +kernel
theorem dX9_tieKnots_13 : decode cX9_tieKnots 13 = .ok (.iload_n 1, 1) := by decide +kernel
theorem dX9_tieKnots_14 : decode cX9_tieKnots 14 = .ok (.iconst 0, 1) := by decide +kernel
theorem dX9_tieKnots_15 : decode cX9_tieKnots 15 = .ok (.invokevirtual 241, 3) := by decide +kernel
theorem dX9_tieKnots_18 : decode cX9_tieKnots 18 = .ok (.aload_n 0, 1) := by decide +kernel
theorem dX9_tieKnots_19 : decode cX9_tieKnots 19 = .ok (.getfield 26, 3) := by decide +kernel
theorem dX9_tieKnots_22 : decode cX9_tieKnots 22 = .ok (.aload_n 0, 1) := by decide +kernel
theorem dX9_tieKnots_23 : decode cX9_tieKnots 23 = .ok (.getfield 13, 3) := by decide +kernel
theorem dX9_tieKnots_26 : decode cX9_tieKnots 26 = .ok (.invokevirtual 134, 3) := by decide +kernel
theorem dX9_tieKnots_29 : decode cX9_tieKnots 29 = .ok (.aload_n 0, 1) := by decide +kernel
theorem dX9_tieKnots_30 : decode cX9_tieKnots 30 = .ok (.getfield 13, 3) := by decide +kernel
theorem dX9_tieKnots_33 : decode cX9_tieKnots 33 = .ok (.getfield 141, 3) := by decide +kernel
theorem dX9_tieKnots_36 : decode cX9_tieKnots 36 = .ok (.getfield 253, 3) := by decide +kernel
theorem dX9_tieKnots_39 : decode cX9_tieKnots 39 = .ok (.iload_n 1, 1) := by decide +kernel
theorem dX9_tieKnots_40 : decode cX9_tieKnots 40 = .ok (.iaload, 1) := by decide +kernel
theorem dX9_tieKnots_41 : decode cX9_tieKnots 41 = .ok (.istore_n 3, 1) := by decide +kernel
theorem dX9_tieKnots_42 : decode cX9_tieKnots 42 = .ok (.aload_n 0, 1) := by decide +kernel
theorem dX9_tieKnots_43 : decode cX9_tieKnots 43 = .ok (.getfield 13, 3) := by decide +kernel
theorem dX9_tieKnots_46 : decode cX9_tieKnots 46 = .ok (.iload_n 1, 1) := by decide +kernel
theorem dX9_tieKnots_47 : decode cX9_tieKnots 47 = .ok (.iload_n 2, 1) := by decide +kernel
theorem dX9_tieKnots_48 : decode cX9_tieKnots 48 = .ok (.invokevirtual 215, 3) := by decide +kernel
theorem dX9_tieKnots_51 : decode cX9_tieKnots 51 = .ok (.iload_n 3, 1) := by decide +kernel
theorem dX9_tieKnots_52 : decode cX9_tieKnots 52 = .ok (.ireturn, 1) := by decide +kernel
theorem dX9_repair_0 : decode cX9_repair 0 = .ok (.aload_n 0, 1) := by decide +kernel
theorem dX9_repair_1 : decode cX9_repair 1 = .ok (.iload_n 1, 1) := by decide +kernel
theorem dX9_repair_2 : decode cX9_repair 2 = .ok (.invokevirtual 229, 3) := by decide +kernel
theorem dX9_repair_5 : decode cX9_repair 5 = .ok (.aload_n 0, 1) := by decide +kernel
theorem dX9_repair_6 : decode cX9_repair 6 = .ok (.getfield 13, 3) := by decide +kernel
theorem dX9_repair_9 : decode cX9_repair 9 = .ok (.iload_n 1, 1) := by decide +kernel
theorem dX9_repair_10 : decode cX9_repair 10 = .ok (.invokevirtual 190, 3) := by decide +kernel
theorem dX9_repair_13 : decode cX9_repair 13 = .ok (.ifCond .ne 14, 3) := by decide +kernel
theorem dX9_repair_16 : decode cX9_repair 16 = .ok (.new 97, 3) := by decide +kernel
theorem dX9_repair_19 : decode cX9_repair 19 = .ok (.dup, 1) := by decide +kernel
theorem dX9_repair_20 : decode cX9_repair 20 = .ok (.ldc_w 256, 3) := by decide +kernel
theorem dX9_repair_23 : decode cX9_repair 23 = .ok (.invokespecial 101, 3) := by decide +kernel
theorem dX9_repair_26 : decode cX9_repair 26 = .ok (.athrow, 1) := by decide +kernel
theorem dX9_repair_27 : decode cX9_repair 27 = .ok (.aload_n 0, 1) := by decide +kernel
theorem dX9_repair_28 : decode cX9_repair 28 = .ok (.getfield 26, 3) := by decide +kernel
theorem dX9_repair_31 : decode cX9_repair 31 = .ok (.aload_n 0, 1) := by decide +kernel
theorem dX9_repair_32 : decode cX9_repair 32 = .ok (.getfield 13, 3) := by decide +kernel
theorem dX9_repair_35 : decode cX9_repair 35 = .ok (.invokevirtual 134, 3) := by decide +kernel
theorem dX9_repair_38 : decode cX9_repair 38 = .ok (.aload_n 0, 1) := by decide +kernel
theorem dX9_repair_39 : decode cX9_repair 39 = .ok (.getfield 13, 3) := by decide +kernel
theorem dX9_repair_42 : decode cX9_repair 42 = .ok (.iload_n 1, 1) := by decide +kernel
theorem dX9_repair_43 : decode cX9_repair 43 = .ok (.invokevirtual 218, 3) := by decide +kernel
theorem dX9_repair_46 : decode cX9_repair 46 = .ok (.aload_n 0, 1) := by decide +kernel
theorem dX9_repair_47 : decode cX9_repair 47 = .ok (.getfield 13, 3) := by decide +kernel
theorem dX9_repair_50 : decode cX9_repair 50 = .ok (.iload_n 1, 1) := by decide +kernel
theorem dX9_repair_51 : decode cX9_repair 51 = .ok (.invokevirtual 258, 3) := by decide +kernel
theorem dX9_repair_54 : decode cX9_repair 54 = .ok (.ireturn, 1) := by decide +kernel
theorem dX9_fund_0 : decode cX9_fund 0 = .ok (.aload_n 0, 1) := by decide +kernel
theorem dX9_fund_1 : decode cX9_fund 1 = .ok (.iload_n 1, 1) := by decide +kernel
theorem dX9_fund_2 : decode cX9_fund 2 = .ok (.invokevirtual 229, 3) := by decide +kernel
theorem dX9_fund_5 : decode cX9_fund 5 = .ok (.iload_n 2, 1) := by decide +kernel
theorem dX9_fund_6 : decode cX9_fund 6 = .ok (.iconst 1, 1) := by decide +kernel
theorem dX9_fund_7 : decode cX9_fund 7 = .ok (.sipush 999, 3) := by decide +kernel
theorem dX9_fund_10 : decode cX9_fund 10 = .ok (.invokestatic 110, 3) := by decide +kernel
theorem dX9_fund_13 : decode cX9_fund 13 = .ok (.aload_n 0, 1) := by decide +kernel
theorem dX9_fund_14 : decode cX9_fund 14 = .ok (.getfield 26, 3) := by decide +kernel
theorem dX9_fund_17 : decode cX9_fund 17 = .ok (.aload_n 0, 1) := by decide +kernel
theorem dX9_fund_18 : decode cX9_fund 18 = .ok (.getfield 13, 3) := by decide +kernel
theorem dX9_fund_21 : decode cX9_fund 21 = .ok (.invokevirtual 134, 3) := by decide +kernel
theorem dX9_fund_24 : decode cX9_fund 24 = .ok (.aload_n 0, 1) := by decide +kernel
theorem dX9_fund_25 : decode cX9_fund 25 = .ok (.getfield 13, 3) := by decide +kernel
theorem dX9_fund_28 : decode cX9_fund 28 = .ok (.iload_n 1, 1) := by decide +kernel
theorem dX9_fund_29 : decode cX9_fund 29 = .ok (.iload_n 2, 1) := by decide +kernel
theorem dX9_fund_30 : decode cX9_fund 30 = .ok (.invokevirtual 221, 3) := by decide +kernel
theorem dX9_fund_33 : decode cX9_fund 33 = .ok (.aload_n 0, 1) := by decide +kernel
theorem dX9_fund_34 : decode cX9_fund 34 = .ok (.getfield 13, 3) := by decide +kernel
theorem dX9_fund_37 : decode cX9_fund 37 = .ok (.getfield 141, 3) := by decide +kernel
theorem dX9_fund_40 : decode cX9_fund 40 = .ok (.getfield 261, 3) := by decide +kernel
theorem dX9_fund_43 : decode cX9_fund 43 = .ok (.iload_n 1, 1) := by decide +kernel
theorem dX9_fund_44 : decode cX9_fund 44 = .ok (.iaload, 1) := by decide +kernel
theorem dX9_fund_45 : decode cX9_fund 45 = .ok (.ireturn, 1) := by decide +kernel
theorem dX9_hour_0 : decode cX9_hour 0 = .ok (.aload_n 0, 1) := by decide +kernel
theorem dX9_hour_1 : decode cX9_hour 1 = .ok (.getfield 13, 3) := by decide +kernel
theorem dX9_hour_4 : decode cX9_hour 4 = .ok (.getfield 234, 3) := by decide +kernel
theorem dX9_hour_7 : decode cX9_hour 7 = .ok (.ireturn, 1) := by decide +kernel
theorem dX9_fee_0 : decode cX9_fee 0 = .ok (.aload_n 0, 1) := by decide +kernel
theorem dX9_fee_1 : decode cX9_fee 1 = .ok (.getfield 13, 3) := by decide +kernel
theorem dX9_fee_4 : decode cX9_fee 4 = .ok (.getfield 59, 3) := by decide +kernel
theorem dX9_fee_7 : decode cX9_fee 7 = .ok (.getfield 72, 3) := by decide +kernel
theorem dX9_fee_10 : decode cX9_fee 10 = .ok (.ireturn, 1) := by decide +kernel
theorem dX9_quota_0 : decode cX9_quota 0 = .ok (.aload_n 0, 1) := by decide +kernel
theorem dX9_quota_1 : decode cX9_quota 1 = .ok (.iload_n 1, 1) := by decide +kernel
theorem dX9_quota_2 : decode cX9_quota 2 = .ok (.invokevirtual 224, 3) := by decide +kernel
theorem dX9_quota_5 : decode cX9_quota 5 = .ok (.aload_n 0, 1) := by decide +kernel
theorem dX9_quota_6 : decode cX9_quota 6 = .ok (.getfield 13, 3) := by decide +kernel
theorem dX9_quota_9 : decode cX9_quota 9 = .ok (.getfield 59, 3) := by decide +kernel
theorem dX9_quota_12 : decode cX9_quota 12 = .ok (.getfield 296, 3) := by decide +kernel
theorem dX9_quota_15 : decode cX9_quota 15 = .ok (.iload_n 1, 1) := by decide +kernel
theorem dX9_quota_16 : decode cX9_quota 16 = .ok (.iaload, 1) := by decide +kernel
theorem dX9_quota_17 : decode cX9_quota 17 = .ok (.ireturn, 1) := by decide +kernel
theorem dX9_quotaUsed_0 : decode cX9_quotaUsed 0 = .ok (.aload_n 0, 1) := by decide +kernel
theorem dX9_quotaUsed_1 : decode cX9_quotaUsed 1 = .ok (.iload_n 1, 1) := by decide +kernel
theorem dX9_quotaUsed_2 : decode cX9_quotaUsed 2 = .ok (.invokevirtual 224, 3) := by decide +kernel
theorem dX9_quotaUsed_5 : decode cX9_quotaUsed 5 = .ok (.iload_n 2, 1) := by decide +kernel
theorem dX9_quotaUsed_6 : decode cX9_quotaUsed 6 = .ok (.invokestatic 281, 3) := by decide +kernel
theorem dX9_quotaUsed_9 : decode cX9_quotaUsed 9 = .ok (.aload_n 0, 1) := by decide +kernel
theorem dX9_quotaUsed_10 : decode cX9_quotaUsed 10 = .ok (.getfield 13, 3) := by decide +kernel
theorem dX9_quotaUsed_13 : decode cX9_quotaUsed 13 = .ok (.iload_n 1, 1) := by decide +kernel
theorem dX9_quotaUsed_14 : decode cX9_quotaUsed 14 = .ok (.iload_n 2, 1) := by decide +kernel
theorem dX9_quotaUsed_15 : decode cX9_quotaUsed 15 = .ok (.invokevirtual 299, 3) := by decide +kernel
theorem dX9_quotaUsed_18 : decode cX9_quotaUsed 18 = .ok (.ireturn, 1) := by decide +kernel
theorem dX9_kiteCount_0 : decode cX9_kiteCount 0 = .ok (.aload_n 0, 1) := by decide +kernel
theorem dX9_kiteCount_1 : decode cX9_kiteCount 1 = .ok (.getfield 13, 3) := by decide +kernel
theorem dX9_kiteCount_4 : decode cX9_kiteCount 4 = .ok (.getfield 141, 3) := by decide +kernel
theorem dX9_kiteCount_7 : decode cX9_kiteCount 7 = .ok (.getfield 145, 3) := by decide +kernel
theorem dX9_kiteCount_10 : decode cX9_kiteCount 10 = .ok (.ireturn, 1) := by decide +kernel
theorem dX9_colourOf_0 : decode cX9_colourOf 0 = .ok (.aload_n 0, 1) := by decide +kernel
theorem dX9_colourOf_1 : decode cX9_colourOf 1 = .ok (.iload_n 1, 1) := by decide +kernel
theorem dX9_colourOf_2 : decode cX9_colourOf 2 = .ok (.invokevirtual 229, 3) := by decide +kernel
theorem dX9_colourOf_5 : decode cX9_colourOf 5 = .ok (.aload_n 0, 1) := by decide +kernel
theorem dX9_colourOf_6 : decode cX9_colourOf 6 = .ok (.getfield 13, 3) := by decide +kernel
theorem dX9_colourOf_9 : decode cX9_colourOf 9 = .ok (.getfield 141, 3) := by decide +kernel
theorem dX9_colourOf_12 : decode cX9_colourOf 12 = .ok (.getfield 310, 3) := by decide +kernel
theorem dX9_colourOf_15 : decode cX9_colourOf 15 = .ok (.iload_n 1, 1) := by decide +kernel
theorem dX9_colourOf_16 : decode cX9_colourOf 16 = .ok (.iaload, 1) := by decide +kernel
theorem dX9_colourOf_17 : decode cX9_colourOf 17 = .ok (.ireturn, 1) := by decide +kernel
theorem dX9_knots_0 : decode cX9_knots 0 = .ok (.aload_n 0, 1) := by decide +kernel
theorem dX9_knots_1 : decode cX9_knots 1 = .ok (.iload_n 1, 1) := by decide +kernel
theorem dX9_knots_2 : decode cX9_knots 2 = .ok (.invokevirtual 229, 3) := by decide +kernel
theorem dX9_knots_5 : decode cX9_knots 5 = .ok (.aload_n 0, 1) := by decide +kernel
theorem dX9_knots_6 : decode cX9_knots 6 = .ok (.getfield 13, 3) := by decide +kernel
theorem dX9_knots_9 : decode cX9_knots 9 = .ok (.getfield 141, 3) := by decide +kernel
theorem dX9_knots_12 : decode cX9_knots 12 = .ok (.getfield 253, 3) := by decide +kernel
theorem dX9_knots_15 : decode cX9_knots 15 = .ok (.iload_n 1, 1) := by decide +kernel
theorem dX9_knots_16 : decode cX9_knots 16 = .ok (.iaload, 1) := by decide +kernel
theorem dX9_knots_17 : decode cX9_knots 17 = .ok (.ireturn, 1) := by decide +kernel
theorem dX9_purse_0 : decode cX9_purse 0 = .ok (.aload_n 0, 1) := by decide +kernel
theorem dX9_purse_1 : decode cX9_purse 1 = .ok (.iload_n 1, 1) := by decide +kernel
theorem dX9_purse_2 : decode cX9_purse 2 = .ok (.invokevirtual 229, 3) := by decide +kernel
theorem dX9_purse_5 : decode cX9_purse 5 = .ok (.aload_n 0, 1) := by decide +kernel
theorem dX9_purse_6 : decode cX9_purse 6 = .ok (.getfield 13, 3) := by decide +kernel
theorem dX9_purse_9 : decode cX9_purse 9 = .ok (.getfield 141, 3) := by decide +kernel
theorem dX9_purse_12 : decode cX9_purse 12 = .ok (.getfield 261, 3) := by decide +kernel
theorem dX9_purse_15 : decode cX9_purse 15 = .ok (.iload_n 1, 1) := by decide +kernel
theorem dX9_purse_16 : decode cX9_purse 16 = .ok (.iaload, 1) := by decide +kernel
theorem dX9_purse_17 : decode cX9_purse 17 = .ok (.ireturn, 1) := by decide +kernel
theorem dX9_stateOf_0 : decode cX9_stateOf 0 = .ok (.aload_n 0, 1) := by decide +kernel
theorem dX9_stateOf_1 : decode cX9_stateOf 1 = .ok (.iload_n 1, 1) := by decide +kernel
theorem dX9_stateOf_2 : decode cX9_stateOf 2 = .ok (.invokevirtual 229, 3) := by decide +kernel
theorem dX9_stateOf_5 : decode cX9_stateOf 5 = .ok (.aload_n 0, 1) := by decide +kernel
theorem dX9_stateOf_6 : decode cX9_stateOf 6 = .ok (.getfield 13, 3) := by decide +kernel
theorem dX9_stateOf_9 : decode cX9_stateOf 9 = .ok (.getfield 141, 3) := by decide +kernel
theorem dX9_stateOf_12 : decode cX9_stateOf 12 = .ok (.getfield 177, 3) := by decide +kernel
theorem dX9_stateOf_15 : decode cX9_stateOf 15 = .ok (.iload_n 1, 1) := by decide +kernel
theorem dX9_stateOf_16 : decode cX9_stateOf 16 = .ok (.iaload, 1) := by decide +kernel
theorem dX9_stateOf_17 : decode cX9_stateOf 17 = .ok (.ireturn, 1) := by decide +kernel
theorem dX9_tangles_0 : decode cX9_tangles 0 = .ok (.aload_n 0, 1) := by decide +kernel
theorem dX9_tangles_1 : decode cX9_tangles 1 = .ok (.iload_n 1, 1) := by decide +kernel
theorem dX9_tangles_2 : decode cX9_tangles 2 = .ok (.invokevirtual 229, 3) := by decide +kernel
theorem dX9_tangles_5 : decode cX9_tangles 5 = .ok (.aload_n 0, 1) := by decide +kernel
theorem dX9_tangles_6 : decode cX9_tangles 6 = .ok (.getfield 13, 3) := by decide +kernel
theorem dX9_tangles_9 : decode cX9_tangles 9 = .ok (.getfield 141, 3) := by decide +kernel
theorem dX9_tangles_12 : decode cX9_tangles 12 = .ok (.getfield 316, 3) := by decide +kernel
theorem dX9_tangles_15 : decode cX9_tangles 15 = .ok (.iload_n 1, 1) := by decide +kernel
theorem dX9_tangles_16 : decode cX9_tangles 16 = .ok (.iaload, 1) := by decide +kernel
theorem dX9_tangles_17 : decode cX9_tangles 17 = .ok (.ireturn, 1) := by decide +kernel
theorem dX9_reach_0 : decode cX9_reach 0 = .ok (.aload_n 0, 1) := by decide +kernel
theorem dX9_reach_1 : decode cX9_reach 1 = .ok (.iload_n 1, 1) := by decide +kernel
theorem dX9_reach_2 : decode cX9_reach 2 = .ok (.invokevirtual 229, 3) := by decide +kernel
theorem dX9_reach_5 : decode cX9_reach 5 = .ok (.iload_n 2, 1) := by decide +kernel
theorem dX9_reach_6 : decode cX9_reach 6 = .ok (.invokestatic 281, 3) := by decide +kernel
theorem dX9_reach_9 : decode cX9_reach 9 = .ok (.aload_n 0, 1) := by decide +kernel
theorem dX9_reach_10 : decode cX9_reach 10 = .ok (.getfield 13, 3) := by decide +kernel
theorem dX9_reach_13 : decode cX9_reach 13 = .ok (.iload_n 1, 1) := by decide +kernel
theorem dX9_reach_14 : decode cX9_reach 14 = .ok (.iload_n 2, 1) := by decide +kernel
theorem dX9_reach_15 : decode cX9_reach 15 = .ok (.invokevirtual 237, 3) := by decide +kernel
theorem dX9_reach_18 : decode cX9_reach 18 = .ok (.ireturn, 1) := by decide +kernel
theorem dX9_canFly_0 : decode cX9_canFly 0 = .ok (.aload_n 0, 1) := by decide +kernel
theorem dX9_canFly_1 : decode cX9_canFly 1 = .ok (.iload_n 1, 1) := by decide +kernel
theorem dX9_canFly_2 : decode cX9_canFly 2 = .ok (.invokevirtual 229, 3) := by decide +kernel
theorem dX9_canFly_5 : decode cX9_canFly 5 = .ok (.iload_n 2, 1) := by decide +kernel
theorem dX9_canFly_6 : decode cX9_canFly 6 = .ok (.invokestatic 281, 3) := by decide +kernel
theorem dX9_canFly_9 : decode cX9_canFly 9 = .ok (.aload_n 0, 1) := by decide +kernel
theorem dX9_canFly_10 : decode cX9_canFly 10 = .ok (.getfield 13, 3) := by decide +kernel
theorem dX9_canFly_13 : decode cX9_canFly 13 = .ok (.iload_n 1, 1) := by decide +kernel
theorem dX9_canFly_14 : decode cX9_canFly 14 = .ok (.iload_n 2, 1) := by decide +kernel
theorem dX9_canFly_15 : decode cX9_canFly 15 = .ok (.invokevirtual 328, 3) := by decide +kernel
theorem dX9_canFly_18 : decode cX9_canFly 18 = .ok (.ireturn, 1) := by decide +kernel
theorem dX9_doCross_0 : decode cX9_doCross 0 = .ok (.aload_n 0, 1) := by decide +kernel
theorem dX9_doCross_1 : decode cX9_doCross 1 = .ok (.iload_n 1, 1) := by decide +kernel
theorem dX9_doCross_2 : decode cX9_doCross 2 = .ok (.invokevirtual 229, 3) := by decide +kernel
theorem dX9_doCross_5 : decode cX9_doCross 5 = .ok (.aload_n 0, 1) := by decide +kernel
theorem dX9_doCross_6 : decode cX9_doCross 6 = .ok (.iload_n 2, 1) := by decide +kernel
theorem dX9_doCross_7 : decode cX9_doCross 7 = .ok (.invokevirtual 229, 3) := by decide +kernel
theorem dX9_doCross_10 : decode cX9_doCross 10 = .ok (.iload_n 1, 1) := by decide +kernel
theorem dX9_doCross_11 : decode cX9_doCross 11 = .ok (.iload_n 2, 1) := by decide +kernel
theorem dX9_doCross_12 : decode cX9_doCross 12 = .ok (.invokestatic 332, 3) := by decide +kernel
theorem dX9_doCross_15 : decode cX9_doCross 15 = .ok (.iload_n 3, 1) := by decide +kernel
theorem dX9_doCross_16 : decode cX9_doCross 16 = .ok (.invokestatic 281, 3) := by decide +kernel
theorem dX9_doCross_19 : decode cX9_doCross 19 = .ok (.aload_n 0, 1) := by decide +kernel
theorem dX9_doCross_20 : decode cX9_doCross 20 = .ok (.getfield 13, 3) := by decide +kernel
theorem dX9_doCross_23 : decode cX9_doCross 23 = .ok (.iload_n 1, 1) := by decide +kernel
theorem dX9_doCross_24 : decode cX9_doCross 24 = .ok (.iload_n 2, 1) := by decide +kernel
theorem dX9_doCross_25 : decode cX9_doCross 25 = .ok (.iload_n 3, 1) := by decide +kernel
theorem dX9_doCross_26 : decode cX9_doCross 26 = .ok (.invokevirtual 335, 3) := by decide +kernel
theorem dX9_doCross_29 : decode cX9_doCross 29 = .ok (.ireturn, 1) := by decide +kernel
theorem dX9_permitCount_0 : decode cX9_permitCount 0 = .ok (.aload_n 0, 1) := by decide +kernel
theorem dX9_permitCount_1 : decode cX9_permitCount 1 = .ok (.getfield 13, 3) := by decide +kernel
theorem dX9_permitCount_4 : decode cX9_permitCount 4 = .ok (.getfield 206, 3) := by decide +kernel
theorem dX9_permitCount_7 : decode cX9_permitCount 7 = .ok (.getfield 252, 3) := by decide +kernel
theorem dX9_permitCount_10 : decode cX9_permitCount 10 = .ok (.ireturn, 1) := by decide +kernel
theorem dX9_permitKite_0 : decode cX9_permitKite 0 = .ok (.aload_n 0, 1) := by decide +kernel
theorem dX9_permitKite_1 : decode cX9_permitKite 1 = .ok (.iload_n 1, 1) := by decide +kernel
theorem dX9_permitKite_2 : decode cX9_permitKite 2 = .ok (.invokevirtual 339, 3) := by decide +kernel
theorem dX9_permitKite_5 : decode cX9_permitKite 5 = .ok (.aload_n 0, 1) := by decide +kernel
theorem dX9_permitKite_6 : decode cX9_permitKite 6 = .ok (.getfield 13, 3) := by decide +kernel
theorem dX9_permitKite_9 : decode cX9_permitKite 9 = .ok (.getfield 206, 3) := by decide +kernel
theorem dX9_permitKite_12 : decode cX9_permitKite 12 = .ok (.getfield 342, 3) := by decide +kernel
theorem dX9_permitKite_15 : decode cX9_permitKite 15 = .ok (.iload_n 1, 1) := by decide +kernel
theorem dX9_permitKite_16 : decode cX9_permitKite 16 = .ok (.iaload, 1) := by decide +kernel
theorem dX9_permitKite_17 : decode cX9_permitKite 17 = .ok (.ireturn, 1) := by decide +kernel
theorem dX9_permitStart_0 : decode cX9_permitStart 0 = .ok (.aload_n 0, 1) := by decide +kernel
theorem dX9_permitStart_1 : decode cX9_permitStart 1 = .ok (.iload_n 1, 1) := by decide +kernel
theorem dX9_permitStart_2 : decode cX9_permitStart 2 = .ok (.invokevirtual 339, 3) := by decide +kernel
theorem dX9_permitStart_5 : decode cX9_permitStart 5 = .ok (.aload_n 0, 1) := by decide +kernel
theorem dX9_permitStart_6 : decode cX9_permitStart 6 = .ok (.getfield 13, 3) := by decide +kernel
theorem dX9_permitStart_9 : decode cX9_permitStart 9 = .ok (.getfield 206, 3) := by decide +kernel
theorem dX9_permitStart_12 : decode cX9_permitStart 12 = .ok (.getfield 345, 3) := by decide +kernel
theorem dX9_permitStart_15 : decode cX9_permitStart 15 = .ok (.iload_n 1, 1) := by decide +kernel
theorem dX9_permitStart_16 : decode cX9_permitStart 16 = .ok (.iaload, 1) := by decide +kernel
theorem dX9_permitStart_17 : decode cX9_permitStart 17 = .ok (.ireturn, 1) := by decide +kernel
theorem dX9_permitDuration_0 : decode cX9_permitDuration 0 = .ok (.aload_n 0, 1) := by decide +kernel
theorem dX9_permitDuration_1 : decode cX9_permitDuration 1 = .ok (.iload_n 1, 1) := by decide +kernel
theorem dX9_permitDuration_2 : decode cX9_permitDuration 2 = .ok (.invokevirtual 339, 3) := by decide +kernel
theorem dX9_permitDuration_5 : decode cX9_permitDuration 5 = .ok (.aload_n 0, 1) := by decide +kernel
theorem dX9_permitDuration_6 : decode cX9_permitDuration 6 = .ok (.getfield 13, 3) := by decide +kernel
theorem dX9_permitDuration_9 : decode cX9_permitDuration 9 = .ok (.getfield 206, 3) := by decide +kernel
theorem dX9_permitDuration_12 : decode cX9_permitDuration 12 = .ok (.getfield 348, 3) := by decide +kernel
theorem dX9_permitDuration_15 : decode cX9_permitDuration 15 = .ok (.iload_n 1, 1) := by decide +kernel
theorem dX9_permitDuration_16 : decode cX9_permitDuration 16 = .ok (.iaload, 1) := by decide +kernel
theorem dX9_permitDuration_17 : decode cX9_permitDuration 17 = .ok (.ireturn, 1) := by decide +kernel
theorem dX9_hasPermit_0 : decode cX9_hasPermit 0 = .ok (.aload_n 0, 1) := by decide +kernel
theorem dX9_hasPermit_1 : decode cX9_hasPermit 1 = .ok (.iload_n 1, 1) := by decide +kernel
theorem dX9_hasPermit_2 : decode cX9_hasPermit 2 = .ok (.invokevirtual 229, 3) := by decide +kernel
theorem dX9_hasPermit_5 : decode cX9_hasPermit 5 = .ok (.iload_n 2, 1) := by decide +kernel
theorem dX9_hasPermit_6 : decode cX9_hasPermit 6 = .ok (.invokestatic 281, 3) := by decide +kernel
theorem dX9_hasPermit_9 : decode cX9_hasPermit 9 = .ok (.aload_n 0, 1) := by decide +kernel
theorem dX9_hasPermit_10 : decode cX9_hasPermit 10 = .ok (.getfield 13, 3) := by decide +kernel
theorem dX9_hasPermit_13 : decode cX9_hasPermit 13 = .ok (.getfield 206, 3) := by decide +kernel
theorem dX9_hasPermit_16 : decode cX9_hasPermit 16 = .ok (.iload_n 1, 1) := by decide +kernel
theorem dX9_hasPermit_17 : decode cX9_hasPermit 17 = .ok (.iload_n 2, 1) := by decide +kernel
theorem dX9_hasPermit_18 : decode cX9_hasPermit 18 = .ok (.iload_n 2, 1) := by decide +kernel
theorem dX9_hasPermit_19 : decode cX9_hasPermit 19 = .ok (.iconst 1, 1) := by decide +kernel
theorem dX9_hasPermit_20 : decode cX9_hasPermit 20 = .ok (.iadd, 1) := by decide +kernel
theorem dX9_hasPermit_21 : decode cX9_hasPermit 21 = .ok (.invokevirtual 351, 3) := by decide +kernel
theorem dX9_hasPermit_24 : decode cX9_hasPermit 24 = .ok (.ireturn, 1) := by decide +kernel
theorem dX9_whyNotPermit_0 : decode cX9_whyNotPermit 0 = .ok (.aload_n 0, 1) := by decide +kernel
theorem dX9_whyNotPermit_1 : decode cX9_whyNotPermit 1 = .ok (.iload_n 1, 1) := by decide +kernel
theorem dX9_whyNotPermit_2 : decode cX9_whyNotPermit 2 = .ok (.iload_n 2, 1) := by decide +kernel
theorem dX9_whyNotPermit_3 : decode cX9_whyNotPermit 3 = .ok (.iload_n 3, 1) := by decide +kernel
theorem dX9_whyNotPermit_4 : decode cX9_whyNotPermit 4 = .ok (.invokevirtual 247, 3) := by decide +kernel
theorem dX9_whyNotPermit_7 : decode cX9_whyNotPermit 7 = .ok (.aload_n 0, 1) := by decide +kernel
theorem dX9_whyNotPermit_8 : decode cX9_whyNotPermit 8 = .ok (.getfield 13, 3) := by decide +kernel
theorem dX9_whyNotPermit_11 : decode cX9_whyNotPermit 11 = .ok (.iload_n 1, 1) := by decide +kernel
theorem dX9_whyNotPermit_12 : decode cX9_whyNotPermit 12 = .ok (.iload_n 2, 1) := by decide +kernel
theorem dX9_whyNotPermit_13 : decode cX9_whyNotPermit 13 = .ok (.iload_n 3, 1) := by decide +kernel
theorem dX9_whyNotPermit_14 : decode cX9_whyNotPermit 14 = .ok (.invokevirtual 186, 3) := by decide +kernel
theorem dX9_whyNotPermit_17 : decode cX9_whyNotPermit 17 = .ok (.ireturn, 1) := by decide +kernel
theorem dX9_kiteInTheWay_0 : decode cX9_kiteInTheWay 0 = .ok (.aload_n 0, 1) := by decide +kernel
theorem dX9_kiteInTheWay_1 : decode cX9_kiteInTheWay 1 = .ok (.iload_n 1, 1) := by decide +kernel
theorem dX9_kiteInTheWay_2 : decode cX9_kiteInTheWay 2 = .ok (.iload_n 2, 1) := by decide +kernel
theorem dX9_kiteInTheWay_3 : decode cX9_kiteInTheWay 3 = .ok (.iload_n 3, 1) := by decide +kernel
theorem dX9_kiteInTheWay_4 : decode cX9_kiteInTheWay 4 = .ok (.invokevirtual 247, 3) := by decide +kernel
theorem dX9_kiteInTheWay_7 : decode cX9_kiteInTheWay 7 = .ok (.aload_n 0, 1) := by decide +kernel
theorem dX9_kiteInTheWay_8 : decode cX9_kiteInTheWay 8 = .ok (.getfield 13, 3) := by decide +kernel
theorem dX9_kiteInTheWay_11 : decode cX9_kiteInTheWay 11 = .ok (.iload_n 1, 1) := by decide +kernel
theorem dX9_kiteInTheWay_12 : decode cX9_kiteInTheWay 12 = .ok (.iload_n 2, 1) := by decide +kernel
theorem dX9_kiteInTheWay_13 : decode cX9_kiteInTheWay 13 = .ok (.iload_n 2, 1) := by decide +kernel
theorem dX9_kiteInTheWay_14 : decode cX9_kiteInTheWay 14 = .ok (.iload_n 3, 1) := by decide +kernel
theorem dX9_kiteInTheWay_15 : decode cX9_kiteInTheWay 15 = .ok (.iadd, 1) := by decide +kernel
theorem dX9_kiteInTheWay_16 : decode cX9_kiteInTheWay 16 = .ok (.invokevirtual 354, 3) := by decide +kernel
theorem dX9_kiteInTheWay_19 : decode cX9_kiteInTheWay 19 = .ok (.ireturn, 1) := by decide +kernel
theorem dX9_officeCoins_0 : decode cX9_officeCoins 0 = .ok (.aload_n 0, 1) := by decide +kernel
theorem dX9_officeCoins_1 : decode cX9_officeCoins 1 = .ok (.getfield 13, 3) := by decide +kernel
theorem dX9_officeCoins_4 : decode cX9_officeCoins 4 = .ok (.getfield 366, 3) := by decide +kernel
theorem dX9_officeCoins_7 : decode cX9_officeCoins 7 = .ok (.ireturn, 1) := by decide +kernel
theorem dX9_coinError_0 : decode cX9_coinError 0 = .ok (.aload_n 0, 1) := by decide +kernel
theorem dX9_coinError_1 : decode cX9_coinError 1 = .ok (.getfield 13, 3) := by decide +kernel
theorem dX9_coinError_4 : decode cX9_coinError 4 = .ok (.getfield 369, 3) := by decide +kernel
theorem dX9_coinError_7 : decode cX9_coinError 7 = .ok (.aload_n 0, 1) := by decide +kernel
theorem dX9_coinError_8 : decode cX9_coinError 8 = .ok (.getfield 13, 3) := by decide +kernel
theorem dX9_coinError_11 : decode cX9_coinError 11 = .ok (.getfield 141, 3) := by decide +kernel
theorem dX9_coinError_14 : decode cX9_coinError 14 = .ok (.invokevirtual 372, 3) := by decide +kernel
theorem dX9_coinError_17 : decode cX9_coinError 17 = .ok (.isub, 1) := by decide +kernel
theorem dX9_coinError_18 : decode cX9_coinError 18 = .ok (.aload_n 0, 1) := by decide +kernel
theorem dX9_coinError_19 : decode cX9_coinError 19 = .ok (.getfield 13, 3) := by decide +kernel
theorem dX9_coinError_22 : decode cX9_coinError 22 = .ok (.getfield 366, 3) := by decide +kernel
theorem dX9_coinError_25 : decode cX9_coinError 25 = .ok (.isub, 1) := by decide +kernel
theorem dX9_coinError_26 : decode cX9_coinError 26 = .ok (.ireturn, 1) := by decide +kernel
theorem dX9_permittedCrossings_0 : decode cX9_permittedCrossings 0 = .ok (.aload_n 0, 1) := by decide +kernel
theorem dX9_permittedCrossings_1 : decode cX9_permittedCrossings 1 = .ok (.getfield 13, 3) := by decide +kernel
theorem dX9_permittedCrossings_4 : decode cX9_permittedCrossings 4 = .ok (.invokevirtual 376, 3) := by decide +kernel
theorem dX9_permittedCrossings_7 : decode cX9_permittedCrossings 7 = .ok (.ireturn, 1) := by decide +kernel
theorem dX9_requireBetween_0 : decode cX9_requireBetween 0 = .ok (.iload_n 0, 1) := by decide +kernel
theorem dX9_requireBetween_1 : decode cX9_requireBetween 1 = .ok (.iload_n 1, 1) := by decide +kernel
theorem dX9_requireBetween_2 : decode cX9_requireBetween 2 = .ok (.if_icmp .lt 8, 3) := by decide +kernel
theorem dX9_requireBetween_5 : decode cX9_requireBetween 5 = .ok (.iload_n 0, 1) := by decide +kernel
theorem dX9_requireBetween_6 : decode cX9_requireBetween 6 = .ok (.iload_n 2, 1) := by decide +kernel
theorem dX9_requireBetween_7 : decode cX9_requireBetween 7 = .ok (.if_icmp .le 14, 3) := by decide +kernel
theorem dX9_requireBetween_10 : decode cX9_requireBetween 10 = .ok (.new 129, 3) := by decide +kernel
theorem dX9_requireBetween_13 : decode cX9_requireBetween 13 = .ok (.dup, 1) := by decide +kernel
theorem dX9_requireBetween_14 : decode cX9_requireBetween 14 = .ok (.ldc_w 390, 3) := by decide +kernel
theorem dX9_requireBetween_17 : decode cX9_requireBetween 17 = .ok (.invokespecial 133, 3) := by decide +kernel
theorem dX9_requireBetween_20 : decode cX9_requireBetween 20 = .ok (.athrow, 1) := by decide +kernel
theorem dX9_requireBetween_21 : decode cX9_requireBetween 21 = .ok (.return_, 1) := by decide +kernel
theorem dX9_requireHour_0 : decode cX9_requireHour 0 = .ok (.iload_n 0, 1) := by decide +kernel
theorem dX9_requireHour_1 : decode cX9_requireHour 1 = .ok (.ifCond .lt 10, 3) := by decide +kernel
theorem dX9_requireHour_4 : decode cX9_requireHour 4 = .ok (.iload_n 0, 1) := by decide +kernel
theorem dX9_requireHour_5 : decode cX9_requireHour 5 = .ok (.ldc_w 392, 3) := by decide +kernel
theorem dX9_requireHour_8 : decode cX9_requireHour 8 = .ok (.if_icmp .le 14, 3) := by decide +kernel
theorem dX9_requireHour_11 : decode cX9_requireHour 11 = .ok (.new 129, 3) := by decide +kernel
theorem dX9_requireHour_14 : decode cX9_requireHour 14 = .ok (.dup, 1) := by decide +kernel
theorem dX9_requireHour_15 : decode cX9_requireHour 15 = .ok (.ldc_w 393, 3) := by decide +kernel
theorem dX9_requireHour_18 : decode cX9_requireHour 18 = .ok (.invokespecial 133, 3) := by decide +kernel
theorem dX9_requireHour_21 : decode cX9_requireHour 21 = .ok (.athrow, 1) := by decide +kernel
theorem dX9_requireHour_22 : decode cX9_requireHour 22 = .ok (.return_, 1) := by decide +kernel
theorem dX9_requireDifferent_0 : decode cX9_requireDifferent 0 = .ok (.iload_n 0, 1) := by decide +kernel
theorem dX9_requireDifferent_1 : decode cX9_requireDifferent 1 = .ok (.iload_n 1, 1) := by decide +kernel
theorem dX9_requireDifferent_2 : decode cX9_requireDifferent 2 = .ok (.if_icmp .ne 14, 3) := by decide +kernel
theorem dX9_requireDifferent_5 : decode cX9_requireDifferent 5 = .ok (.new 129, 3) := by decide +kernel
theorem dX9_requireDifferent_8 : decode cX9_requireDifferent 8 = .ok (.dup, 1) := by decide +kernel
theorem dX9_requireDifferent_9 : decode cX9_requireDifferent 9 = .ok (.ldc_w 395, 3) := by decide +kernel
theorem dX9_requireDifferent_12 : decode cX9_requireDifferent 12 = .ok (.invokespecial 133, 3) := by decide +kernel
theorem dX9_requireDifferent_15 : decode cX9_requireDifferent 15 = .ok (.athrow, 1) := by decide +kernel
theorem dX9_requireDifferent_16 : decode cX9_requireDifferent 16 = .ok (.return_, 1) := by decide +kernel
theorem dX9_requireKite_0 : decode cX9_requireKite 0 = .ok (.aload_n 0, 1) := by decide +kernel
theorem dX9_requireKite_1 : decode cX9_requireKite 1 = .ok (.getfield 13, 3) := by decide +kernel
theorem dX9_requireKite_4 : decode cX9_requireKite 4 = .ok (.iload_n 1, 1) := by decide +kernel
theorem dX9_requireKite_5 : decode cX9_requireKite 5 = .ok (.invokevirtual 171, 3) := by decide +kernel
theorem dX9_requireKite_8 : decode cX9_requireKite 8 = .ok (.ifCond .ne 14, 3) := by decide +kernel
theorem dX9_requireKite_11 : decode cX9_requireKite 11 = .ok (.new 397, 3) := by decide +kernel
theorem dX9_requireKite_14 : decode cX9_requireKite 14 = .ok (.dup, 1) := by decide +kernel
theorem dX9_requireKite_15 : decode cX9_requireKite 15 = .ok (.ldc_w 399, 3) := by decide +kernel
theorem dX9_requireKite_18 : decode cX9_requireKite 18 = .ok (.invokespecial 401, 3) := by decide +kernel
theorem dX9_requireKite_21 : decode cX9_requireKite 21 = .ok (.athrow, 1) := by decide +kernel
theorem dX9_requireKite_22 : decode cX9_requireKite 22 = .ok (.return_, 1) := by decide +kernel
theorem dX9_requireState_0 : decode cX9_requireState 0 = .ok (.aload_n 0, 1) := by decide +kernel
theorem dX9_requireState_1 : decode cX9_requireState 1 = .ok (.getfield 13, 3) := by decide +kernel
theorem dX9_requireState_4 : decode cX9_requireState 4 = .ok (.getfield 141, 3) := by decide +kernel
theorem dX9_requireState_7 : decode cX9_requireState 7 = .ok (.getfield 177, 3) := by decide +kernel
theorem dX9_requireState_10 : decode cX9_requireState 10 = .ok (.iload_n 1, 1) := by decide +kernel
theorem dX9_requireState_11 : decode cX9_requireState 11 = .ok (.iaload, 1) := by decide +kernel
theorem dX9_requireState_12 : decode cX9_requireState 12 = .ok (.iload_n 2, 1) := by decide +kernel
theorem dX9_requireState_13 : decode cX9_requireState 13 = .ok (.if_icmp .eq 14, 3) := by decide +kernel
theorem dX9_requireState_16 : decode cX9_requireState 16 = .ok (.new 97, 3) := by decide +kernel
theorem dX9_requireState_19 : decode cX9_requireState 19 = .ok (.dup, 1) := by decide +kernel
theorem dX9_requireState_20 : decode cX9_requireState 20 = .ok (.ldc_w 402, 3) := by decide +kernel
theorem dX9_requireState_23 : decode cX9_requireState 23 = .ok (.invokespecial 101, 3) := by decide +kernel
theorem dX9_requireState_26 : decode cX9_requireState 26 = .ok (.athrow, 1) := by decide +kernel
theorem dX9_requireState_27 : decode cX9_requireState 27 = .ok (.return_, 1) := by decide +kernel
theorem dX9_requireColour_0 : decode cX9_requireColour 0 = .ok (.iload_n 1, 1) := by decide +kernel
theorem dX9_requireColour_1 : decode cX9_requireColour 1 = .ok (.ifCond .lt 17, 3) := by decide +kernel
theorem dX9_requireColour_4 : decode cX9_requireColour 4 = .ok (.iload_n 1, 1) := by decide +kernel
theorem dX9_requireColour_5 : decode cX9_requireColour 5 = .ok (.aload_n 0, 1) := by decide +kernel
theorem dX9_requireColour_6 : decode cX9_requireColour 6 = .ok (.getfield 13, 3) := by decide +kernel
theorem dX9_requireColour_9 : decode cX9_requireColour 9 = .ok (.getfield 59, 3) := by decide +kernel
theorem dX9_requireColour_12 : decode cX9_requireColour 12 = .ok (.getfield 293, 3) := by decide +kernel
theorem dX9_requireColour_15 : decode cX9_requireColour 15 = .ok (.if_icmp .lt 14, 3) := by decide +kernel
theorem dX9_requireColour_18 : decode cX9_requireColour 18 = .ok (.new 397, 3) := by decide +kernel
theorem dX9_requireColour_21 : decode cX9_requireColour 21 = .ok (.dup, 1) := by decide +kernel
theorem dX9_requireColour_22 : decode cX9_requireColour 22 = .ok (.ldc_w 406, 3) := by decide +kernel
theorem dX9_requireColour_25 : decode cX9_requireColour 25 = .ok (.invokespecial 401, 3) := by decide +kernel
theorem dX9_requireColour_28 : decode cX9_requireColour 28 = .ok (.athrow, 1) := by decide +kernel
theorem dX9_requireColour_29 : decode cX9_requireColour 29 = .ok (.return_, 1) := by decide +kernel
theorem dX9_requirePermit_0 : decode cX9_requirePermit 0 = .ok (.iload_n 1, 1) := by decide +kernel
theorem dX9_requirePermit_1 : decode cX9_requirePermit 1 = .ok (.ifCond .lt 17, 3) := by decide +kernel
theorem dX9_requirePermit_4 : decode cX9_requirePermit 4 = .ok (.iload_n 1, 1) := by decide +kernel
theorem dX9_requirePermit_5 : decode cX9_requirePermit 5 = .ok (.aload_n 0, 1) := by decide +kernel
theorem dX9_requirePermit_6 : decode cX9_requirePermit 6 = .ok (.getfield 13, 3) := by decide +kernel
theorem dX9_requirePermit_9 : decode cX9_requirePermit 9 = .ok (.getfield 206, 3) := by decide +kernel
theorem dX9_requirePermit_12 : decode cX9_requirePermit 12 = .ok (.getfield 252, 3) := by decide +kernel
theorem dX9_requirePermit_15 : decode cX9_requirePermit 15 = .ok (.if_icmp .lt 14, 3) := by decide +kernel
theorem dX9_requirePermit_18 : decode cX9_requirePermit 18 = .ok (.new 397, 3) := by decide +kernel
theorem dX9_requirePermit_21 : decode cX9_requirePermit 21 = .ok (.dup, 1) := by decide +kernel
theorem dX9_requirePermit_22 : decode cX9_requirePermit 22 = .ok (.ldc_w 408, 3) := by decide +kernel
theorem dX9_requirePermit_25 : decode cX9_requirePermit 25 = .ok (.invokespecial 401, 3) := by decide +kernel
theorem dX9_requirePermit_28 : decode cX9_requirePermit 28 = .ok (.athrow, 1) := by decide +kernel
theorem dX9_requirePermit_29 : decode cX9_requirePermit 29 = .ok (.return_, 1) := by decide +kernel
theorem dX9_requirePermitArguments_0 : decode cX9_requirePermitArguments 0 = .ok (.aload_n 0, 1) := by decide +kernel
theorem dX9_requirePermitArguments_1 : decode cX9_requirePermitArguments 1 = .ok (.iload_n 1, 1) := by decide +kernel
theorem dX9_requirePermitArguments_2 : decode cX9_requirePermitArguments 2 = .ok (.invokevirtual 229, 3) := by decide +kernel
theorem dX9_requirePermitArguments_5 : decode cX9_requirePermitArguments 5 = .ok (.iload_n 2, 1) := by decide +kernel
theorem dX9_requirePermitArguments_6 : decode cX9_requirePermitArguments 6 = .ok (.invokestatic 281, 3) := by decide +kernel
theorem dX9_requirePermitArguments_9 : decode cX9_requirePermitArguments 9 = .ok (.iload_n 3, 1) := by decide +kernel
theorem dX9_requirePermitArguments_10 : decode cX9_requirePermitArguments 10 = .ok (.iconst 1, 1) := by decide +kernel
theorem dX9_requirePermitArguments_11 : decode cX9_requirePermitArguments 11 = .ok (.bipush 24, 2) := by decide +kernel
theorem dX9_requirePermitArguments_13 : decode cX9_requirePermitArguments 13 = .ok (.invokestatic 110, 3) := by decide +kernel
theorem dX9_requirePermitArguments_16 : decode cX9_requirePermitArguments 16 = .ok (.return_, 1) := by decide +kernel
theorem dJ9_max_7cf53_0 : decode cJ9_max_7cf53 0 = .ok (.iload_n 0, 1) := by decide +kernel
theorem dJ9_max_7cf53_1 : decode cJ9_max_7cf53 1 = .ok (.iload_n 1, 1) := by decide +kernel
theorem dJ9_max_7cf53_2 : decode cJ9_max_7cf53 2 = .ok (.if_icmp .lt 7, 3) := by decide +kernel
theorem dJ9_max_7cf53_5 : decode cJ9_max_7cf53 5 = .ok (.iload_n 0, 1) := by decide +kernel
theorem dJ9_max_7cf53_6 : decode cJ9_max_7cf53 6 = .ok (.goto 4, 3) := by decide +kernel
theorem dJ9_max_7cf53_9 : decode cJ9_max_7cf53 9 = .ok (.iload_n 1, 1) := by decide +kernel
theorem dJ9_max_7cf53_10 : decode cJ9_max_7cf53 10 = .ok (.ireturn, 1) := by decide +kernel
theorem dJ9_min_7cf53_0 : decode cJ9_min_7cf53 0 = .ok (.iload_n 0, 1) := by decide +kernel
theorem dJ9_min_7cf53_1 : decode cJ9_min_7cf53 1 = .ok (.iload_n 1, 1) := by decide +kernel
theorem dJ9_min_7cf53_2 : decode cJ9_min_7cf53 2 = .ok (.if_icmp .gt 7, 3) := by decide +kernel
theorem dJ9_min_7cf53_5 : decode cJ9_min_7cf53 5 = .ok (.iload_n 0, 1) := by decide +kernel
theorem dJ9_min_7cf53_6 : decode cJ9_min_7cf53 6 = .ok (.goto 4, 3) := by decide +kernel
theorem dJ9_min_7cf53_9 : decode cJ9_min_7cf53 9 = .ok (.iload_n 1, 1) := by decide +kernel
theorem dJ9_min_7cf53_10 : decode cJ9_min_7cf53 10 = .ok (.ireturn, 1) := by decide +kernel
