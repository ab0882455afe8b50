theorem dX0_init_0 : decode cX0_init 0 = .ok (.aload_n 0, 1) := by decide +kernel
theorem dX0_init_1 : decode cX0_init 1 = .ok (.invokespecial 3, 3) := by decide +kernel
theorem dX0_init_4 : decode cX0_init 4 = .ok (.aload_n 0, 1) := by decide +kernel
theorem dX0_init_5 : decode cX0_init 5 = .ok (.iconst 4, 1) := by decide +kernel
theorem dX0_init_6 : decode cX0_init 6 = .ok (.newarray .int, 2) := by decide +kernel
theorem dX0_init_8 : decode cX0_init 8 = .ok (.putfield 9, 3) := by decide +kernel
theorem dX0_init_11 : decode cX0_init 11 = .ok (.aload_n 0, 1) := by decide +kernel
theorem dX0_init_12 : decode cX0_init 12 = .ok (.bipush 24, 2) := by decide +kernel
theorem dX0_init_14 : decode cX0_init 14 = .ok (.newarray .int, 2) := by decide +kernel
theorem dX0_init_16 : decode cX0_init 16 = .ok (.putfield 15, 3) := by decide +kernel
theorem dX0_init_19 : decode cX0_init 19 = .ok (.aload_n 0, 1) := by decide +kernel
theorem dX0_init_20 : decode cX0_init 20 = .ok (.bipush 24, 2) := by decide +kernel
theorem dX0_init_22 : decode cX0_init 22 = .ok (.newarray .int, 2) := by decide +kernel
theorem dX0_init_24 : decode cX0_init 24 = .ok (.putfield 18, 3) := by decide +kernel
theorem dX0_init_27 : decode cX0_init 27 = .ok (.aload_n 0, 1) := by decide +kernel
theorem dX0_init_28 : decode cX0_init 28 = .ok (.bipush 6, 2) := by decide +kernel
theorem dX0_init_30 : decode cX0_init 30 = .ok (.newarray .int, 2) := by decide +kernel
theorem dX0_init_32 : decode cX0_init 32 = .ok (.putfield 21, 3) := by decide +kernel
theorem dX0_init_35 : decode cX0_init 35 = .ok (.return_, 1) := by decide +kernel
theorem dX0_copyFrom_0 : decode cX0_copyFrom 0 = .ok (.aload_n 0, 1) := by decide +kernel
theorem dX0_copyFrom_1 : decode cX0_copyFrom 1 = .ok (.aload_n 1, 1) := by decide +kernel
theorem dX0_copyFrom_2 : decode cX0_copyFrom 2 = .ok (.getfield 24, 3) := by decide +kernel
theorem dX0_copyFrom_5 : decode cX0_copyFrom 5 = .ok (.putfield 24, 3) := by decide +kernel
theorem dX0_copyFrom_8 : decode cX0_copyFrom 8 = .ok (.aload_n 0, 1) := by decide +kernel
theorem dX0_copyFrom_9 : decode cX0_copyFrom 9 = .ok (.aload_n 1, 1) := by decide +kernel
theorem dX0_copyFrom_10 : decode cX0_copyFrom 10 = .ok (.getfield 28, 3) := by decide +kernel
theorem dX0_copyFrom_13 : decode cX0_copyFrom 13 = .ok (.putfield 28, 3) := by decide +kernel
theorem dX0_copyFrom_16 : decode cX0_copyFrom 16 = .ok (.aload_n 0, 1) := by decide +kernel
theorem dX0_copyFrom_17 : decode cX0_copyFrom 17 = .ok (.aload_n 1, 1) := by decide +kernel
theorem dX0_copyFrom_18 : decode cX0_copyFrom 18 = .ok (.getfield 31, 3) := by decide +kernel
theorem dX0_copyFrom_21 : decode cX0_copyFrom 21 = .ok (.putfield 31, 3) := by decide +kernel
theorem dX0_copyFrom_24 : decode cX0_copyFrom 24 = .ok (.aload_n 0, 1) := by decide +kernel
theorem dX0_copyFrom_25 : decode cX0_copyFrom 25 = .ok (.aload_n 1, 1) := by decide +kernel
theorem dX0_copyFrom_26 : decode cX0_copyFrom 26 = .ok (.getfield 34, 3) := by decide +kernel
theorem dX0_copyFrom_29 : decode cX0_copyFrom 29 = .ok (.putfield 34, 3) := by decide +kernel
theorem dX0_copyFrom_32 : decode cX0_copyFrom 32 = .ok (.aload_n 0, 1) := by decide +kernel
theorem dX0_copyFrom_33 : decode cX0_copyFrom 33 = .ok (.aload_n 1, 1) := by decide +kernel
theorem dX0_copyFrom_34 : decode cX0_copyFrom 34 = .ok (.getfield 37, 3) := by decide +kernel
theorem dX0_copyFrom_37 : decode cX0_copyFrom 37 = .ok (.putfield 37, 3) := by decide +kernel
theorem dX0_copyFrom_40 : decode cX0_copyFrom 40 = .ok (.aload_n 1, 1) := by decide +kernel
theorem dX0_copyFrom_41 : decode cX0_copyFrom 41 = .ok (.getfield 9, 3) := by decide +kernel
theorem dX0_copyFrom_44 : decode cX0_copyFrom 44 = .ok (.iconst 0, 1) := by decide +kernel
theorem dX0_copyFrom_45 : decode cX0_copyFrom 45 = .ok (.aload_n 0, 1) := by decide +kernel
theorem dX0_copyFrom_46 : decode cX0_copyFrom 46 = .ok (.getfield 9, 3) := by decide +kernel
theorem dX0_copyFrom_49 : decode cX0_copyFrom 49 = .ok (.iconst 0, 1) := by decide +kernel
theorem dX0_copyFrom_50 : decode cX0_copyFrom 50 = .ok (.iconst 4, 1) := by decide +kernel
theorem dX0_copyFrom_51 : decode cX0_copyFrom 51 = .ok (.invokestatic 40, 3) := by decide +kernel
theorem dX0_copyFrom_54 : decode cX0_copyFrom 54 = .ok (.aload_n 1, 1) := by decide +kernel
theorem dX0_copyFrom_55 : decode cX0_copyFrom 55 = .ok (.getfield 15, 3) := by decide +kernel
theorem dX0_copyFrom_58 : decode cX0_copyFrom 58 = .ok (.iconst 0, 1) := by decide +kernel
theorem dX0_copyFrom_59 : decode cX0_copyFrom 59 = .ok (.aload_n 0, 1) := by decide +kernel
theorem dX0_copyFrom_60 : decode cX0_copyFrom 60 = .ok (.getfield 15, 3) := by decide +kernel
theorem dX0_copyFrom_63 : decode cX0_copyFrom 63 = .ok (.iconst 0, 1) := by decide +kernel
theorem dX0_copyFrom_64 : decode cX0_copyFrom 64 = .ok (.bipush 24, 2) := by decide +kernel
theorem dX0_copyFrom_66 : decode cX0_copyFrom 66 = .ok (.invokestatic 40, 3) := by decide +kernel
theorem dX0_copyFrom_69 : decode cX0_copyFrom 69 = .ok (.aload_n 1, 1) := by decide +kernel
theorem dX0_copyFrom_70 : decode cX0_copyFrom 70 = .ok (.getfield 18, 3) := by decide +kernel
theorem dX0_copyFrom_73 : decode cX0_copyFrom 73 = .ok (.iconst 0, 1) := by decide +kernel
theorem dX0_copyFrom_74 : decode cX0_copyFrom 74 = .ok (.aload_n 0, 1) := by decide +kernel
theorem dX0_copyFrom_75 : decode cX0_copyFrom 75 = .ok (.getfield 18, 3) := by decide +kernel
theorem dX0_copyFrom_78 : decode cX0_copyFrom 78 = .ok (.iconst 0, 1) := by decide +kernel
theorem dX0_copyFrom_79 : decode cX0_copyFrom 79 = .ok (.bipush 24, 2) := by decide +kernel
theorem dX0_copyFrom_81 : decode cX0_copyFrom 81 = .ok (.invokestatic 40, 3) := by decide +kernel
theorem dX0_copyFrom_84 : decode cX0_copyFrom 84 = .ok (.aload_n 0, 1) := by decide +kernel
theorem dX0_copyFrom_85 : decode cX0_copyFrom 85 = .ok (.aload_n 1, 1) := by decide +kernel
theorem dX0_copyFrom_86 : decode cX0_copyFrom 86 = .ok (.getfield 46, 3) := by decide +kernel
theorem dX0_copyFrom_89 : decode cX0_copyFrom 89 = .ok (.putfield 46, 3) := by decide +kernel
theorem dX0_copyFrom_92 : decode cX0_copyFrom 92 = .ok (.aload_n 1, 1) := by decide +kernel
theorem dX0_copyFrom_93 : decode cX0_copyFrom 93 = .ok (.getfield 21, 3) := by decide +kernel
theorem dX0_copyFrom_96 : decode cX0_copyFrom 96 = .ok (.iconst 0, 1) := by decide +kernel
theorem dX0_copyFrom_97 : decode cX0_copyFrom 97 = .ok (.aload_n 0, 1) := by decide +kernel
theorem dX0_copyFrom_98 : decode cX0_copyFrom 98 = .ok (.getfield 21, 3) := by decide +kernel
theorem dX0_copyFrom_101 : decode cX0_copyFrom 101 = .ok (.iconst 0, 1) := by decide +kernel
theorem dX0_copyFrom_102 : decode cX0_copyFrom 102 = .ok (.bipush 6, 2) := by decide +kernel
theorem dX0_copyFrom_104 : decode cX0_copyFrom 104 = .ok (.invokestatic 40, 3) := by decide +kernel
theorem dX0_copyFrom_107 : decode cX0_copyFrom 107 = .ok (.return_, 1) := by decide +kernel
theorem dX0_openZone_0 : decode cX0_openZone 0 = .ok (.aload_n 0, 1) := by decide +kernel
theorem dX0_openZone_1 : decode cX0_openZone 1 = .ok (.getfield 37, 3) := by decide +kernel
theorem dX0_openZone_4 : decode cX0_openZone 4 = .ok (.iconst 4, 1) := by decide +kernel
theorem dX0_openZone_5 : decode cX0_openZone 5 = .ok (.if_icmp .ge 23, 3) := by decide +kernel
theorem dX0_openZone_8 : decode cX0_openZone 8 = .ok (.aload_n 0, 1) := by decide +kernel
theorem dX0_openZone_9 : decode cX0_openZone 9 = .ok (.getfield 9, 3) := by decide +kernel
theorem dX0_openZone_12 : decode cX0_openZone 12 = .ok (.aload_n 0, 1) := by decide +kernel
theorem dX0_openZone_13 : decode cX0_openZone 13 = .ok (.getfield 37, 3) := by decide +kernel
theorem dX0_openZone_16 : decode cX0_openZone 16 = .ok (.iconst 0, 1) := by decide +kernel
theorem dX0_openZone_17 : decode cX0_openZone 17 = .ok (.iastore, 1) := by decide +kernel
theorem dX0_openZone_18 : decode cX0_openZone 18 = .ok (.aload_n 0, 1) := by decide +kernel
theorem dX0_openZone_19 : decode cX0_openZone 19 = .ok (.dup, 1) := by decide +kernel
theorem dX0_openZone_20 : decode cX0_openZone 20 = .ok (.getfield 37, 3) := by decide +kernel
theorem dX0_openZone_23 : decode cX0_openZone 23 = .ok (.iconst 1, 1) := by decide +kernel
theorem dX0_openZone_24 : decode cX0_openZone 24 = .ok (.iadd, 1) := by decide +kernel
theorem dX0_openZone_25 : decode cX0_openZone 25 = .ok (.putfield 37, 3) := by decide +kernel
theorem dX0_openZone_28 : decode cX0_openZone 28 = .ok (.return_, 1) := by decide +kernel
theorem dX0_addWind_0 : decode cX0_addWind 0 = .ok (.aload_n 0, 1) := by decide +kernel
theorem dX0_addWind_1 : decode cX0_addWind 1 = .ok (.getfield 37, 3) := by decide +kernel
theorem dX0_addWind_4 : decode cX0_addWind 4 = .ok (.iconst 1, 1) := by decide +kernel
theorem dX0_addWind_5 : decode cX0_addWind 5 = .ok (.isub, 1) := by decide +kernel
theorem dX0_addWind_6 : decode cX0_addWind 6 = .ok (.istore_n 3, 1) := by decide +kernel
theorem dX0_addWind_7 : decode cX0_addWind 7 = .ok (.iload_n 3, 1) := by decide +kernel
theorem dX0_addWind_8 : decode cX0_addWind 8 = .ok (.ifCond .lt 53, 3) := by decide +kernel
theorem dX0_addWind_11 : decode cX0_addWind 11 = .ok (.aload_n 0, 1) := by decide +kernel
theorem dX0_addWind_12 : decode cX0_addWind 12 = .ok (.getfield 9, 3) := by decide +kernel
theorem dX0_addWind_15 : decode cX0_addWind 15 = .ok (.iload_n 3, 1) := by decide +kernel
theorem dX0_addWind_16 : decode cX0_addWind 16 = .ok (.iaload, 1) := by decide +kernel
theorem dX0_addWind_17 : decode cX0_addWind 17 = .ok (.bipush 6, 2) := by decide +kernel
theorem dX0_addWind_19 : decode cX0_addWind 19 = .ok (.if_icmp .ge 42, 3) := by decide +kernel
theorem dX0_addWind_22 : decode cX0_addWind 22 = .ok (.iload_n 3, 1) := by decide +kernel
theorem dX0_addWind_23 : decode cX0_addWind 23 = .ok (.bipush 6, 2) := by decide +kernel
theorem dX0_addWind_25 : decode cX0_addWind 25 = .ok (.imul, 1) := by decide +kernel
theorem dX0_addWind_26 : decode cX0_addWind 26 = .ok (.aload_n 0, 1) := by decide +kernel
theorem dX0_addWind_27 : decode cX0_addWind 27 = .ok (.getfield 9, 3) := by decide +kernel
theorem dX0_addWind_30 : decode cX0_addWind 30 = .ok (.iload_n 3, 1) := by decide +kernel
theorem dX0_addWind_31 : decode cX0_addWind 31 = .ok (.iaload, 1) := by decide +kernel
theorem dX0_addWind_32 : decode cX0_addWind 32 = .ok (.iadd, 1) := by decide +kernel
theorem dX0_addWind_33 : decode cX0_addWind 33 = .ok (.istore 4, 2) := by decide +kernel
theorem dX0_addWind_35 : decode cX0_addWind 35 = .ok (.aload_n 0, 1) := by decide +kernel
theorem dX0_addWind_36 : decode cX0_addWind 36 = .ok (.getfield 15, 3) := by decide +kernel
theorem dX0_addWind_39 : decode cX0_addWind 39 = .ok (.iload 4, 2) := by decide +kernel
theorem dX0_addWind_41 : decode cX0_addWind 41 = .ok (.iload_n 1, 1) := by decide +kernel
theorem dX0_addWind_42 : decode cX0_addWind 42 = .ok (.iastore, 1) := by decide +kernel
theorem dX0_addWind_43 : decode cX0_addWind 43 = .ok (.aload_n 0, 1) := by decide +kernel
theorem dX0_addWind_44 : decode cX0_addWind 44 = .ok (.getfield 18, 3) := by decide +kernel
theorem dX0_addWind_47 : decode cX0_addWind 47 = .ok (.iload 4, 2) := by decide +kernel
theorem dX0_addWind_49 : decode cX0_addWind 49 = .ok (.iload_n 2, 1) := by decide +kernel
theorem dX0_addWind_50 : decode cX0_addWind 50 = .ok (.iastore, 1) := by decide +kernel
theorem dX0_addWind_51 : decode cX0_addWind 51 = .ok (.aload_n 0, 1) := by decide +kernel
theorem dX0_addWind_52 : decode cX0_addWind 52 = .ok (.getfield 9, 3) := by decide +kernel
theorem dX0_addWind_55 : decode cX0_addWind 55 = .ok (.iload_n 3, 1) := by decide +kernel
theorem dX0_addWind_56 : decode cX0_addWind 56 = .ok (.dup2, 1) := by decide +kernel
theorem dX0_addWind_57 : decode cX0_addWind 57 = .ok (.iaload, 1) := by decide +kernel
theorem dX0_addWind_58 : decode cX0_addWind 58 = .ok (.iconst 1, 1) := by decide +kernel
theorem dX0_addWind_59 : decode cX0_addWind 59 = .ok (.iadd, 1) := by decide +kernel
theorem dX0_addWind_60 : decode cX0_addWind 60 = .ok (.iastore, 1) := by decide +kernel
theorem dX0_addWind_61 : decode cX0_addWind 61 = .ok (.return_, 1) := by decide +kernel
theorem dX0_addColour_0 : decode cX0_addColour 0 = .ok (.aload_n 0, 1) := by decide +kernel
theorem dX0_addColour_1 : decode cX0_addColour 1 = .ok (.getfield 46, 3) := by decide +kernel
theorem dX0_addColour_4 : decode cX0_addColour 4 = .ok (.bipush 6, 2) := by decide +kernel
theorem dX0_addColour_6 : decode cX0_addColour 6 = .ok (.if_icmp .ge 23, 3) := by decide +kernel
theorem dX0_addColour_9 : decode cX0_addColour 9 = .ok (.aload_n 0, 1) := by decide +kernel
theorem dX0_addColour_10 : decode cX0_addColour 10 = .ok (.getfield 21, 3) := by decide +kernel
theorem dX0_addColour_13 : decode cX0_addColour 13 = .ok (.aload_n 0, 1) := by decide +kernel
theorem dX0_addColour_14 : decode cX0_addColour 14 = .ok (.getfield 46, 3) := by decide +kernel
theorem dX0_addColour_17 : decode cX0_addColour 17 = .ok (.iload_n 1, 1) := by decide +kernel
theorem dX0_addColour_18 : decode cX0_addColour 18 = .ok (.iastore, 1) := by decide +kernel
theorem dX0_addColour_19 : decode cX0_addColour 19 = .ok (.aload_n 0, 1) := by decide +kernel
theorem dX0_addColour_20 : decode cX0_addColour 20 = .ok (.dup, 1) := by decide +kernel
theorem dX0_addColour_21 : decode cX0_addColour 21 = .ok (.getfield 46, 3) := by decide +kernel
theorem dX0_addColour_24 : decode cX0_addColour 24 = .ok (.iconst 1, 1) := by decide +kernel
theorem dX0_addColour_25 : decode cX0_addColour 25 = .ok (.iadd, 1) := by decide +kernel
theorem dX0_addColour_26 : decode cX0_addColour 26 = .ok (.putfield 46, 3) := by decide +kernel
theorem dX0_addColour_29 : decode cX0_addColour 29 = .ok (.return_, 1) := by decide +kernel
theorem dX0_zoneAt_0 : decode cX0_zoneAt 0 = .ok (.aload_n 0, 1) := by decide +kernel
theorem dX0_zoneAt_1 : decode cX0_zoneAt 1 = .ok (.getfield 24, 3) := by decide +kernel
theorem dX0_zoneAt_4 : decode cX0_zoneAt 4 = .ok (.iconst 1, 1) := by decide +kernel
theorem dX0_zoneAt_5 : decode cX0_zoneAt 5 = .ok (.if_icmp .ge 7, 3) := by decide +kernel
theorem dX0_zoneAt_8 : decode cX0_zoneAt 8 = .ok (.iconst 0, 1) := by decide +kernel
theorem dX0_zoneAt_9 : decode cX0_zoneAt 9 = .ok (.goto 14, 3) := by decide +kernel
theorem dX0_zoneAt_12 : decode cX0_zoneAt 12 = .ok (.iload_n 1, 1) := by decide +kernel
theorem dX0_zoneAt_13 : decode cX0_zoneAt 13 = .ok (.aload_n 0, 1) := by decide +kernel
theorem dX0_zoneAt_14 : decode cX0_zoneAt 14 = .ok (.getfield 37, 3) := by decide +kernel
theorem dX0_zoneAt_17 : decode cX0_zoneAt 17 = .ok (.imul, 1) := by decide +kernel
theorem dX0_zoneAt_18 : decode cX0_zoneAt 18 = .ok (.aload_n 0, 1) := by decide +kernel
theorem dX0_zoneAt_19 : decode cX0_zoneAt 19 = .ok (.getfield 24, 3) := by decide +kernel
theorem dX0_zoneAt_22 : decode cX0_zoneAt 22 = .ok (.idiv, 1) := by decide +kernel
theorem dX0_zoneAt_23 : decode cX0_zoneAt 23 = .ok (.ireturn, 1) := by decide +kernel
theorem dX0_windIndex_0 : decode cX0_windIndex 0 = .ok (.iload_n 1, 1) := by decide +kernel
theorem dX0_windIndex_1 : decode cX0_windIndex 1 = .ok (.bipush 6, 2) := by decide +kernel
theorem dX0_windIndex_3 : decode cX0_windIndex 3 = .ok (.imul, 1) := by decide +kernel
theorem dX0_windIndex_4 : decode cX0_windIndex 4 = .ok (.istore_n 3, 1) := by decide +kernel
theorem dX0_windIndex_5 : decode cX0_windIndex 5 = .ok (.aload_n 0, 1) := by decide +kernel
theorem dX0_windIndex_6 : decode cX0_windIndex 6 = .ok (.getfield 9, 3) := by decide +kernel
theorem dX0_windIndex_9 : decode cX0_windIndex 9 = .ok (.iload_n 1, 1) := by decide +kernel
theorem dX0_windIndex_10 : decode cX0_windIndex 10 = .ok (.iaload, 1) := by decide +kernel
theorem dX0_windIndex_11 : decode cX0_windIndex 11 = .ok (.iconst 1, 1) := by decide +kernel
theorem dX0_windIndex_12 : decode cX0_windIndex 12 = .ok (.if_icmp .ge 7, 3) := by decide +kernel
theorem dX0_windIndex_15 : decode cX0_windIndex 15 = .ok (.iload_n 3, 1) := by decide +kernel
theorem dX0_windIndex_16 : decode cX0_windIndex 16 = .ok (.goto 13, 3) := by decide +kernel
theorem dX0_windIndex_19 : decode cX0_windIndex 19 = .ok (.iload_n 3, 1) := by decide +kernel
theorem dX0_windIndex_20 : decode cX0_windIndex 20 = .ok (.iload_n 2, 1) := by decide +kernel
theorem dX0_windIndex_21 : decode cX0_windIndex 21 = .ok (.aload_n 0, 1) := by decide +kernel
theorem dX0_windIndex_22 : decode cX0_windIndex 22 = .ok (.getfield 9, 3) := by decide +kernel
theorem dX0_windIndex_25 : decode cX0_windIndex 25 = .ok (.iload_n 1, 1) := by decide +kernel
theorem dX0_windIndex_26 : decode cX0_windIndex 26 = .ok (.iaload, 1) := by decide +kernel
theorem dX0_windIndex_27 : decode cX0_windIndex 27 = .ok (.irem, 1) := by decide +kernel
theorem dX0_windIndex_28 : decode cX0_windIndex 28 = .ok (.iadd, 1) := by decide +kernel
theorem dX0_windIndex_29 : decode cX0_windIndex 29 = .ok (.ireturn, 1) := by decide +kernel
theorem dX0_contains_0 : decode cX0_contains 0 = .ok (.iload_n 1, 1) := by decide +kernel
theorem dX0_contains_1 : decode cX0_contains 1 = .ok (.ifCond .lt 27, 3) := by decide +kernel
theorem dX0_contains_4 : decode cX0_contains 4 = .ok (.iload_n 1, 1) := by decide +kernel
theorem dX0_contains_5 : decode cX0_contains 5 = .ok (.aload_n 0, 1) := by decide +kernel
theorem dX0_contains_6 : decode cX0_contains 6 = .ok (.getfield 24, 3) := by decide +kernel
theorem dX0_contains_9 : decode cX0_contains 9 = .ok (.if_icmp .ge 19, 3) := by decide +kernel
theorem dX0_contains_12 : decode cX0_contains 12 = .ok (.iload_n 2, 1) := by decide +kernel
theorem dX0_contains_13 : decode cX0_contains 13 = .ok (.ifCond .lt 15, 3) := by decide +kernel
theorem dX0_contains_16 : decode cX0_contains 16 = .ok (.iload_n 2, 1) := by decide +kernel
theorem dX0_contains_17 : decode cX0_contains 17 = .ok (.aload_n 0, 1) := by decide +kernel
theorem dX0_contains_18 : decode cX0_contains 18 = .ok (.getfield 28, 3) := by decide +kernel
theorem dX0_contains_21 : decode cX0_contains 21 = .ok (.if_icmp .ge 7, 3) := by decide +kernel
theorem dX0_contains_24 : decode cX0_contains 24 = .ok (.iconst 1, 1) := by decide +kernel
theorem dX0_contains_25 : decode cX0_contains 25 = .ok (.goto 4, 3) := by decide +kernel
theorem dX0_contains_28 : decode cX0_contains 28 = .ok (.iconst 0, 1) := by decide +kernel
theorem dX0_contains_29 : decode cX0_contains 29 = .ok (.ireturn, 1) := by decide +kernel
theorem dX1_init_0 : decode cX1_init 0 = .ok (.aload_n 0, 1) := by decide +kernel
theorem dX1_init_1 : decode cX1_init 1 = .ok (.invokespecial 3, 3) := by decide +kernel
theorem dX1_init_4 : decode cX1_init 4 = .ok (.aload_n 0, 1) := by decide +kernel
theorem dX1_init_5 : decode cX1_init 5 = .ok (.bipush 16, 2) := by decide +kernel
theorem dX1_init_7 : decode cX1_init 7 = .ok (.newarray .int, 2) := by decide +kernel
theorem dX1_init_9 : decode cX1_init 9 = .ok (.putfield 9, 3) := by decide +kernel
theorem dX1_init_12 : decode cX1_init 12 = .ok (.aload_n 0, 1) := by decide +kernel
theorem dX1_init_13 : decode cX1_init 13 = .ok (.bipush 16, 2) := by decide +kernel
theorem dX1_init_15 : decode cX1_init 15 = .ok (.newarray .int, 2) := by decide +kernel
theorem dX1_init_17 : decode cX1_init 17 = .ok (.putfield 15, 3) := by decide +kernel
theorem dX1_init_20 : decode cX1_init 20 = .ok (.aload_n 0, 1) := by decide +kernel
theorem dX1_init_21 : decode cX1_init 21 = .ok (.bipush 16, 2) := by decide +kernel
theorem dX1_init_23 : decode cX1_init 23 = .ok (.newarray .int, 2) := by decide +kernel
theorem dX1_init_25 : decode cX1_init 25 = .ok (.putfield 18, 3) := by decide +kernel
theorem dX1_init_28 : decode cX1_init 28 = .ok (.aload_n 0, 1) := by decide +kernel
theorem dX1_init_29 : decode cX1_init 29 = .ok (.bipush 16, 2) := by decide +kernel
theorem dX1_init_31 : decode cX1_init 31 = .ok (.newarray .int, 2) := by decide +kernel
theorem dX1_init_33 : decode cX1_init 33 = .ok (.putfield 21, 3) := by decide +kernel
theorem dX1_init_36 : decode cX1_init 36 = .ok (.aload_n 0, 1) := by decide +kernel
theorem dX1_init_37 : decode cX1_init 37 = .ok (.bipush 16, 2) := by decide +kernel
theorem dX1_init_39 : decode cX1_init 39 = .ok (.newarray .int, 2) := by decide +kernel
theorem dX1_init_41 : decode cX1_init 41 = .ok (.putfield 24, 3) := by decide +kernel
theorem dX1_init_44 : decode cX1_init 44 = .ok (.aload_n 0, 1) := by decide +kernel
theorem dX1_init_45 : decode cX1_init 45 = .ok (.bipush 16, 2) := by decide +kernel
theorem dX1_init_47 : decode cX1_init 47 = .ok (.newarray .int, 2) := by decide +kernel
theorem dX1_init_49 : decode cX1_init 49 = .ok (.putfield 27, 3) := by decide +kernel
theorem dX1_init_52 : decode cX1_init 52 = .ok (.aload_n 0, 1) := by decide +kernel
theorem dX1_init_53 : decode cX1_init 53 = .ok (.bipush 16, 2) := by decide +kernel
theorem dX1_init_55 : decode cX1_init 55 = .ok (.newarray .int, 2) := by decide +kernel
theorem dX1_init_57 : decode cX1_init 57 = .ok (.putfield 30, 3) := by decide +kernel
theorem dX1_init_60 : decode cX1_init 60 = .ok (.aload_n 0, 1) := by decide +kernel
theorem dX1_init_61 : decode cX1_init 61 = .ok (.bipush 16, 2) := by decide +kernel
theorem dX1_init_63 : decode cX1_init 63 = .ok (.newarray .int, 2) := by decide +kernel
theorem dX1_init_65 : decode cX1_init 65 = .ok (.putfield 33, 3) := by decide +kernel
theorem dX1_init_68 : decode cX1_init 68 = .ok (.aload_n 0, 1) := by decide +kernel
theorem dX1_init_69 : decode cX1_init 69 = .ok (.bipush 16, 2) := by decide +kernel
theorem dX1_init_71 : decode cX1_init 71 = .ok (.newarray .int, 2) := by decide +kernel
theorem dX1_init_73 : decode cX1_init 73 = .ok (.putfield 36, 3) := by decide +kernel
theorem dX1_init_76 : decode cX1_init 76 = .ok (.aload_n 0, 1) := by decide +kernel
theorem dX1_init_77 : decode cX1_init 77 = .ok (.bipush 16, 2) := by decide +kernel
theorem dX1_init_79 : decode cX1_init 79 = .ok (.newarray .int, 2) := by decide +kernel
theorem dX1_init_81 : decode cX1_init 81 = .ok (.putfield 39, 3) := by decide +kernel
theorem dX1_init_84 : decode cX1_init 84 = .ok (.return_, 1) := by decide +kernel
theorem dX1_copyFrom_0 : decode cX1_copyFrom 0 = .ok (.aload_n 0, 1) := by decide +kernel
theorem dX1_copyFrom_1 : decode cX1_copyFrom 1 = .ok (.aload_n 1, 1) := by decide +kernel
theorem dX1_copyFrom_2 : decode cX1_copyFrom 2 = .ok (.getfield 42, 3) := by decide +kernel
theorem dX1_copyFrom_5 : decode cX1_copyFrom 5 = .ok (.putfield 42, 3) := by decide +kernel
theorem dX1_copyFrom_8 : decode cX1_copyFrom 8 = .ok (.aload_n 0, 1) := by decide +kernel
theorem dX1_copyFrom_9 : decode cX1_copyFrom 9 = .ok (.aload_n 1, 1) := by decide +kernel
theorem dX1_copyFrom_10 : decode cX1_copyFrom 10 = .ok (.getfield 46, 3) := by decide +kernel
theorem dX1_copyFrom_13 : decode cX1_copyFrom 13 = .ok (.putfield 46, 3) := by decide +kernel
theorem dX1_copyFrom_16 : decode cX1_copyFrom 16 = .ok (.aload_n 1, 1) := by decide +kernel
theorem dX1_copyFrom_17 : decode cX1_copyFrom 17 = .ok (.getfield 9, 3) := by decide +kernel
theorem dX1_copyFrom_20 : decode cX1_copyFrom 20 = .ok (.iconst 0, 1) := by decide +kernel
theorem dX1_copyFrom_21 : decode cX1_copyFrom 21 = .ok (.aload_n 0, 1) := by decide +kernel
theorem dX1_copyFrom_22 : decode cX1_copyFrom 22 = .ok (.getfield 9, 3) := by decide +kernel
theorem dX1_copyFrom_25 : decode cX1_copyFrom 25 = .ok (.iconst 0, 1) := by decide +kernel
theorem dX1_copyFrom_26 : decode cX1_copyFrom 26 = .ok (.bipush 16, 2) := by decide +kernel
theorem dX1_copyFrom_28 : decode cX1_copyFrom 28 = .ok (.invokestatic 49, 3) := by decide +kernel
theorem dX1_copyFrom_31 : decode cX1_copyFrom 31 = .ok (.aload_n 1, 1) := by decide +kernel
theorem dX1_copyFrom_32 : decode cX1_copyFrom 32 = .ok (.getfield 15, 3) := by decide +kernel
theorem dX1_copyFrom_35 : decode cX1_copyFrom 35 = .ok (.iconst 0, 1) := by decide +kernel
theorem dX1_copyFrom_36 : decode cX1_copyFrom 36 = .ok (.aload_n 0, 1) := by decide +kernel
theorem dX1_copyFrom_37 : decode cX1_copyFrom 37 = .ok (.getfield 15, 3) := by decide +kernel
theorem dX1_copyFrom_40 : decode cX1_copyFrom 40 = .ok (.iconst 0, 1) := by decide +kernel
theorem dX1_copyFrom_41 : decode cX1_copyFrom 41 = .ok (.bipush 16, 2) := by decide +kernel
theorem dX1_copyFrom_43 : decode cX1_copyFrom 43 = .ok (.invokestatic 49, 3) := by decide +kernel
theorem dX1_copyFrom_46 : decode cX1_copyFrom 46 = .ok (.aload_n 1, 1) := by decide +kernel
theorem dX1_copyFrom_47 : decode cX1_copyFrom 47 = .ok (.getfield 18, 3) := by decide +kernel
theorem dX1_copyFrom_50 : decode cX1_copyFrom 50 = .ok (.iconst 0, 1) := by decide +kernel
theorem dX1_copyFrom_51 : decode cX1_copyFrom 51 = .ok (.aload_n 0, 1) := by decide +kernel
theorem dX1_copyFrom_52 : decode cX1_copyFrom 52 = .ok (.getfield 18, 3) := by decide +kernel
theorem dX1_copyFrom_55 : decode cX1_copyFrom 55 = .ok (.iconst 0, 1) := by decide +kernel
theorem dX1_copyFrom_56 : decode cX1_copyFrom 56 = .ok (.bipush 16, 2) := by decide +kernel
theorem dX1_copyFrom_58 : decode cX1_copyFrom 58 = .ok (.invokestatic 49, 3) := by decide +kernel
theorem dX1_copyFrom_61 : decode cX1_copyFrom 61 = .ok (.aload_n 1, 1) := by decide +kernel
theorem dX1_copyFrom_62 : decode cX1_copyFrom 62 = .ok (.getfield 21, 3) := by decide +kernel
theorem dX1_copyFrom_65 : decode cX1_copyFrom 65 = .ok (.iconst 0, 1) := by decide +kernel
theorem dX1_copyFrom_66 : decode cX1_copyFrom 66 = .ok (.aload_n 0, 1) := by decide +kernel
theorem dX1_copyFrom_67 : decode cX1_copyFrom 67 = .ok (.getfield 21, 3) := by decide +kernel
theorem dX1_copyFrom_70 : decode cX1_copyFrom 70 = .ok (.iconst 0, 1) := by decide +kernel
theorem dX1_copyFrom_71 : decode cX1_copyFrom 71 = .ok (.bipush 16, 2) := by decide +kernel
theorem dX1_copyFrom_73 : decode cX1_copyFrom 73 = .ok (.invokestatic 49, 3) := by decide +kernel
theorem dX1_copyFrom_76 : decode cX1_copyFrom 76 = .ok (.aload_n 1, 1) := by decide +kernel
theorem dX1_copyFrom_77 : decode cX1_copyFrom 77 = .ok (.getfield 24, 3) := by decide +kernel
theorem dX1_copyFrom_80 : decode cX1_copyFrom 80 = .ok (.iconst 0, 1) := by decide +kernel
theorem dX1_copyFrom_81 : decode cX1_copyFrom 81 = .ok (.aload_n 0, 1) := by decide +kernel
theorem dX1_copyFrom_82 : decode cX1_copyFrom 82 = .ok (.getfield 24, 3) := by decide +kernel
theorem dX1_copyFrom_85 : decode cX1_copyFrom 85 = .ok (.iconst 0, 1) := by decide +kernel
theorem dX1_copyFrom_86 : decode cX1_copyFrom 86 = .ok (.bipush 16, 2) := by decide +kernel
theorem dX1_copyFrom_88 : decode cX1_copyFrom 88 = .ok (.invokestatic 49, 3) := by decide +kernel
theorem dX1_copyFrom_91 : decode cX1_copyFrom 91 = .ok (.aload_n 1, 1) := by decide +kernel
theorem dX1_copyFrom_92 : decode cX1_copyFrom 92 = .ok (.getfield 27, 3) := by decide +kernel
theorem dX1_copyFrom_95 : decode cX1_copyFrom 95 = .ok (.iconst 0, 1) := by decide +kernel
theorem dX1_copyFrom_96 : decode cX1_copyFrom 96 = .ok (.aload_n 0, 1) := by decide +kernel
theorem dX1_copyFrom_97 : decode cX1_copyFrom 97 = .ok (.getfield 27, 3) := by decide +kernel
theorem dX1_copyFrom_100 : decode cX1_copyFrom 100 = .ok (.iconst 0, 1) := by decide +kernel
theorem dX1_copyFrom_101 : decode cX1_copyFrom 101 = .ok (.bipush 16, 2) := by decide +kernel
theorem dX1_copyFrom_103 : decode cX1_copyFrom 103 = .ok (.invokestatic 49, 3) := by decide +kernel
theorem dX1_copyFrom_106 : decode cX1_copyFrom 106 = .ok (.aload_n 1, 1) := by decide +kernel
theorem dX1_copyFrom_107 : decode cX1_copyFrom 107 = .ok (.getfield 30, 3) := by decide +kernel
theorem dX1_copyFrom_110 : decode cX1_copyFrom 110 = .ok (.iconst 0, 1) := by decide +kernel
theorem dX1_copyFrom_111 : decode cX1_copyFrom 111 = .ok (.aload_n 0, 1) := by decide +kernel
theorem dX1_copyFrom_112 : decode cX1_copyFrom 112 = .ok (.getfield 30, 3) := by decide +kernel
theorem dX1_copyFrom_115 : decode cX1_copyFrom 115 = .ok (.iconst 0, 1) := by decide +kernel
theorem dX1_copyFrom_116 : decode cX1_copyFrom 116 = .ok (.bipush 16, 2) := by decide +kernel
theorem dX1_copyFrom_118 : decode cX1_copyFrom 118 = .ok (.invokestatic 49, 3) := by decide +kernel
theorem dX1_copyFrom_121 : decode cX1_copyFrom 121 = .ok (.aload_n 1, 1) := by decide +kernel
theorem dX1_copyFrom_122 : decode cX1_copyFrom 122 = .ok (.getfield 33, 3) := by decide +kernel
theorem dX1_copyFrom_125 : decode cX1_copyFrom 125 = .ok (.iconst 0, 1) := by decide +kernel
theorem dX1_copyFrom_126 : decode cX1_copyFrom 126 = .ok (.aload_n 0, 1) := by decide +kernel
theorem dX1_copyFrom_127 : decode cX1_copyFrom 127 = .ok (.getfield 33, 3) := by decide +kernel
theorem dX1_copyFrom_130 : decode cX1_copyFrom 130 = .ok (.iconst 0, 1) := by decide +kernel
theorem dX1_copyFrom_131 : decode cX1_copyFrom 131 = .ok (.bipush 16, 2) := by decide +kernel
theorem dX1_copyFrom_133 : decode cX1_copyFrom 133 = .ok (.invokestatic 49, 3) := by decide +kernel
theorem dX1_copyFrom_136 : decode cX1_copyFrom 136 = .ok (.aload_n 1, 1) := by decide +kernel
theorem dX1_copyFrom_137 : decode cX1_copyFrom 137 = .ok (.getfield 36, 3) := by decide +kernel
theorem dX1_copyFrom_140 : decode cX1_copyFrom 140 = .ok (.iconst 0, 1) := by decide +kernel
theorem dX1_copyFrom_141 : decode cX1_copyFrom 141 = .ok (.aload_n 0, 1) := by decide +kernel
theorem dX1_copyFrom_142 : decode cX1_copyFrom 142 = .ok (.getfield 36, 3) := by decide +kernel
theorem dX1_copyFrom_145 : decode cX1_copyFrom 145 = .ok (.iconst 0, 1) := by decide +kernel
theorem dX1_copyFrom_146 : decode cX1_copyFrom 146 = .ok (.bipush 16, 2) := by decide +kernel
theorem dX1_copyFrom_148 : decode cX1_copyFrom 148 = .ok (.invokestatic 49, 3) := by decide +kernel
theorem dX1_copyFrom_151 : decode cX1_copyFrom 151 = .ok (.aload_n 1, 1) := by decide +kernel
theorem dX1_copyFrom_152 : decode cX1_copyFrom 152 = .ok (.getfield 39, 3) := by decide +kernel
theorem dX1_copyFrom_155 : decode cX1_copyFrom 155 = .ok (.iconst 0, 1) := by decide +kernel
theorem dX1_copyFrom_156 : decode cX1_copyFrom 156 = .ok (.aload_n 0, 1) := by decide +kernel
theorem dX1_copyFrom_157 : decode cX1_copyFrom 157 = .ok (.getfield 39, 3) := by decide +kernel
theorem dX1_copyFrom_160 : decode cX1_copyFrom 160 = .ok (.iconst 0, 1) := by decide +kernel
theorem dX1_copyFrom_161 : decode cX1_copyFrom 161 = .ok (.bipush 16, 2) := by decide +kernel
theorem dX1_copyFrom_163 : decode cX1_copyFrom 163 = .ok (.invokestatic 49, 3) := by decide +kernel
theorem dX1_copyFrom_166 : decode cX1_copyFrom 166 = .ok (.return_, 1) := by decide +kernel
theorem dX1_countInState_0 : decode cX1_countInState 0 = .ok (.iconst 0, 1) := by decide +kernel
theorem dX1_countInState_1 : decode cX1_countInState 1 = .ok (.istore_n 2, 1) := by decide +kernel
theorem dX1_countInState_2 : decode cX1_countInState 2 = .ok (.iconst 0, 1) := by decide +kernel
theorem dX1_countInState_3 : decode cX1_countInState 3 = .ok (.istore_n 3, 1) := by decide +kernel
theorem dX1_countInState_4 : decode cX1_countInState 4 = .ok (.iload_n 3, 1) := by decide +kernel
theorem dX1_countInState_5 : decode cX1_countInState 5 = .ok (.aload_n 0, 1) := by decide +kernel
theorem dX1_countInState_6 : decode cX1_countInState 6 = .ok (.getfield 42, 3) := by decide +kernel
theorem dX1_countInState_9 : decode cX1_countInState 9 = .ok (.if_icmp .ge 22, 3) := by decide +kernel
theorem dX1_countInState_12 : decode cX1_countInState 12 = .ok (.aload_n 0, 1) := by decide +kernel
theorem dX1_countInState_13 : decode cX1_countInState 13 = .ok (.getfield 33, 3) := by decide +kernel
theorem dX1_countInState_16 : decode cX1_countInState 16 = .ok (.iload_n 3, 1) := by decide +kernel
theorem dX1_countInState_17 : decode cX1_countInState 17 = .ok (.iaload, 1) := by decide +kernel
theorem dX1_countInState_18 : decode cX1_countInState 18 = .ok (.iload_n 1, 1) := by decide +kernel
theorem dX1_countInState_19 : decode cX1_countInState 19 = .ok (.if_icmp .ne 6, 3) := by decide +kernel
theorem dX1_countInState_22 : decode cX1_countInState 22 = .ok (.iinc 2 1, 3) := by decide +kernel
theorem dX1_countInState_25 : decode cX1_countInState 25 = .ok (.iinc 3 1, 3) := by decide +kernel
theorem dX1_countInState_28 : decode cX1_countInState 28 = .ok (.goto (-24), 3) := by decide +kernel
theorem dX1_countInState_31 : decode cX1_countInState 31 = .ok (.iload_n 2, 1) := by decide +kernel
theorem dX1_countInState_32 : decode cX1_countInState 32 = .ok (.ireturn, 1) := by decide +kernel
theorem dX1_pursesTogether_0 : decode cX1_pursesTogether 0 = .ok (.iconst 0, 1) := by decide +kernel
theorem dX1_pursesTogether_1 : decode cX1_pursesTogether 1 = .ok (.istore_n 1, 1) := by decide +kernel
theorem dX1_pursesTogether_2 : decode cX1_pursesTogether 2 = .ok (.iconst 0, 1) := by decide +kernel
theorem dX1_pursesTogether_3 : decode cX1_pursesTogether 3 = .ok (.istore_n 2, 1) := by decide +kernel
theorem dX1_pursesTogether_4 : decode cX1_pursesTogether 4 = .ok (.iload_n 2, 1) := by decide +kernel
theorem dX1_pursesTogether_5 : decode cX1_pursesTogether 5 = .ok (.aload_n 0, 1) := by decide +kernel
theorem dX1_pursesTogether_6 : decode cX1_pursesTogether 6 = .ok (.getfield 42, 3) := by decide +kernel
theorem dX1_pursesTogether_9 : decode cX1_pursesTogether 9 = .ok (.if_icmp .ge 18, 3) := by decide +kernel
theorem dX1_pursesTogether_12 : decode cX1_pursesTogether 12 = .ok (.iload_n 1, 1) := by decide +kernel
theorem dX1_pursesTogether_13 : decode cX1_pursesTogether 13 = .ok (.aload_n 0, 1) := by decide +kernel
theorem dX1_pursesTogether_14 : decode cX1_pursesTogether 14 = .ok (.getfield 30, 3) := by decide +kernel
theorem dX1_pursesTogether_17 : decode cX1_pursesTogether 17 = .ok (.iload_n 2, 1) := by decide +kernel
theorem dX1_pursesTogether_18 : decode cX1_pursesTogether 18 = .ok (.iaload, 1) := by decide +kernel
theorem dX1_pursesTogether_19 : decode cX1_pursesTogether 19 = .ok (.iadd, 1) := by decide +kernel
theorem dX1_pursesTogether_20 : decode cX1_pursesTogether 20 = .ok (.istore_n 1, 1) := by decide +kernel
theorem dX1_pursesTogether_21 : decode cX1_pursesTogether 21 = .ok (.iinc 2 1, 3) := by decide +kernel
theorem dX1_pursesTogether_24 : decode cX1_pursesTogether 24 = .ok (.goto (-20), 3) := by decide +kernel
theorem dX1_pursesTogether_27 : decode cX1_pursesTogether 27 = .ok (.iload_n 1, 1) := by decide +kernel
theorem dX1_pursesTogether_28 : decode cX1_pursesTogether 28 = .ok (.ireturn, 1) := by decide +kernel
theorem dX2_init_0 : decode cX2_init 0 = .ok (.aload_n 0, 1) := by decide +kernel
theorem dX2_init_1 : decode cX2_init 1 = .ok (.invokespecial 3, 3) := by decide +kernel
theorem dX2_init_4 : decode cX2_init 4 = .ok (.aload_n 0, 1) := by decide +kernel
theorem dX2_init_5 : decode cX2_init 5 = .ok (.bipush 8, 2) := by decide +kernel
theorem dX2_init_7 : decode cX2_init 7 = .ok (.anewarray 9, 3) := by decide +kernel
theorem dX2_init_10 : decode cX2_init 10 = .ok (.putfield 11, 3) := by decide +kernel
theorem dX2_init_13 : decode cX2_init 13 = .ok (.iconst 0, 1) := by decide +kernel
theorem dX2_init_14 : decode cX2_init 14 = .ok (.istore_n 1, 1) := by decide +kernel
theorem dX2_init_15 : decode cX2_init 15 = .ok (.iload_n 1, 1) := by decide +kernel
theorem dX2_init_16 : decode cX2_init 16 = .ok (.bipush 8, 2) := by decide +kernel
theorem dX2_init_18 : decode cX2_init 18 = .ok (.if_icmp .ge 22, 3) := by decide +kernel
theorem dX2_init_21 : decode cX2_init 21 = .ok (.aload_n 0, 1) := by decide +kernel
theorem dX2_init_22 : decode cX2_init 22 = .ok (.getfield 11, 3) := by decide +kernel
theorem dX2_init_25 : decode cX2_init 25 = .ok (.iload_n 1, 1) := by decide +kernel
theorem dX2_init_26 : decode cX2_init 26 = .ok (.new 9, 3) := by decide +kernel
theorem dX2_init_29 : decode cX2_init 29 = .ok (.dup, 1) := by decide +kernel
theorem dX2_init_30 : decode cX2_init 30 = .ok (.invokespecial 17, 3) := by decide +kernel
theorem dX2_init_33 : decode cX2_init 33 = .ok (.aastore, 1) := by decide +kernel
theorem dX2_init_34 : decode cX2_init 34 = .ok (.iinc 1 1, 3) := by decide +kernel
theorem dX2_init_37 : decode cX2_init 37 = .ok (.goto (-22), 3) := by decide +kernel
theorem dX2_init_40 : decode cX2_init 40 = .ok (.return_, 1) := by decide +kernel
theorem dX2_remember_0 : decode cX2_remember 0 = .ok (.aload_n 0, 1) := by decide +kernel
theorem dX2_remember_1 : decode cX2_remember 1 = .ok (.getfield 11, 3) := by decide +kernel
theorem dX2_remember_4 : decode cX2_remember 4 = .ok (.aload_n 0, 1) := by decide +kernel
theorem dX2_remember_5 : decode cX2_remember 5 = .ok (.getfield 18, 3) := by decide +kernel
theorem dX2_remember_8 : decode cX2_remember 8 = .ok (.aaload, 1) := by decide +kernel
theorem dX2_remember_9 : decode cX2_remember 9 = .ok (.aload_n 1, 1) := by decide +kernel
theorem dX2_remember_10 : decode cX2_remember 10 = .ok (.invokevirtual 22, 3) := by decide +kernel
theorem dX2_remember_13 : decode cX2_remember 13 = .ok (.aload_n 0, 1) := by decide +kernel
theorem dX2_remember_14 : decode cX2_remember 14 = .ok (.aload_n 0, 1) := by decide +kernel
theorem dX2_remember_15 : decode cX2_remember 15 = .ok (.getfield 18, 3) := by decide +kernel
theorem dX2_remember_18 : decode cX2_remember 18 = .ok (.iconst 1, 1) := by decide +kernel
theorem dX2_remember_19 : decode cX2_remember 19 = .ok (.iadd, 1) := by decide +kernel
theorem dX2_remember_20 : decode cX2_remember 20 = .ok (.bipush 8, 2) := by decide +kernel
theorem dX2_remember_22 : decode cX2_remember 22 = .ok (.irem, 1) := by decide +kernel
theorem dX2_remember_23 : decode cX2_remember 23 = .ok (.putfield 18, 3) := by decide +kernel
theorem dX2_remember_26 : decode cX2_remember 26 = .ok (.aload_n 0, 1) := by decide +kernel
theorem dX2_remember_27 : decode cX2_remember 27 = .ok (.aload_n 0, 1) := by decide +kernel
theorem dX2_remember_28 : decode cX2_remember 28 = .ok (.getfield 26, 3) := by decide +kernel
theorem dX2_remember_31 : decode cX2_remember 31 = .ok (.iconst 1, 1) := by decide +kernel
theorem dX2_remember_32 : decode cX2_remember 32 = .ok (.iadd, 1) := by decide +kernel
theorem dX2_remember_33 : decode cX2_remember 33 = .ok (.bipush 8, 2) := by decide +kernel
theorem dX2_remember_35 : decode cX2_remember 35 = .ok (.invokestatic 29, 3) := by decide +kernel
theorem dX2_remember_38 : decode cX2_remember 38 = .ok (.putfield 26, 3) := by decide +kernel
theorem dX2_remember_41 : decode cX2_remember 41 = .ok (.return_, 1) := by decide +kernel
theorem dX2_bringBack_0 : decode cX2_bringBack 0 = .ok (.aload_n 0, 1) := by decide +kernel
theorem dX2_bringBack_1 : decode cX2_bringBack 1 = .ok (.aload_n 0, 1) := by decide +kernel
theorem dX2_bringBack_2 : decode cX2_bringBack 2 = .ok (.getfield 18, 3) := by decide +kernel
theorem dX2_bringBack_5 : decode cX2_bringBack 5 = .ok (.bipush 8, 2) := by decide +kernel
theorem dX2_bringBack_7 : decode cX2_bringBack 7 = .ok (.iadd, 1) := by decide +kernel
theorem dX2_bringBack_8 : decode cX2_bringBack 8 = .ok (.iconst 1, 1) := by decide +kernel
theorem dX2_bringBack_9 : decode cX2_bringBack 9 = .ok (.isub, 1) := by decide +kernel
theorem dX2_bringBack_10 : decode cX2_bringBack 10 = .ok (.bipush 8, 2) := by decide +kernel
theorem dX2_bringBack_12 : decode cX2_bringBack 12 = .ok (.irem, 1) := by decide +kernel
theorem dX2_bringBack_13 : decode cX2_bringBack 13 = .ok (.putfield 18, 3) := by decide +kernel
theorem dX2_bringBack_16 : decode cX2_bringBack 16 = .ok (.aload_n 0, 1) := by decide +kernel
theorem dX2_bringBack_17 : decode cX2_bringBack 17 = .ok (.dup, 1) := by decide +kernel
theorem dX2_bringBack_18 : decode cX2_bringBack 18 = .ok (.getfield 26, 3) := by decide +kernel
theorem dX2_bringBack_21 : decode cX2_bringBack 21 = .ok (.iconst 1, 1) := by decide +kernel
theorem dX2_bringBack_22 : decode cX2_bringBack 22 = .ok (.isub, 1) := by decide +kernel
theorem dX2_bringBack_23 : decode cX2_bringBack 23 = .ok (.putfield 26, 3) := by decide +kernel
theorem dX2_bringBack_26 : decode cX2_bringBack 26 = .ok (.aload_n 1, 1) := by decide +kernel
theorem dX2_bringBack_27 : decode cX2_bringBack 27 = .ok (.aload_n 0, 1) := by decide +kernel
theorem dX2_bringBack_28 : decode cX2_bringBack 28 = .ok (.getfield 11, 3) := by decide +kernel
theorem dX2_bringBack_31 : decode cX2_bringBack 31 = .ok (.aload_n 0, 1) := by decide +kernel
theorem dX2_bringBack_32 : decode cX2_bringBack 32 = .ok (.getfield 18, 3) := by decide +kernel
theorem dX2_bringBack_35 : decode cX2_bringBack 35 = .ok (.aaload, 1) := by decide +kernel
theorem dX2_bringBack_36 : decode cX2_bringBack 36 = .ok (.invokevirtual 22, 3) := by decide +kernel
theorem dX2_bringBack_39 : decode cX2_bringBack 39 = .ok (.return_, 1) := by decide +kernel
theorem dX3_init_0 : decode cX3_init 0 = .ok (.aload_n 0, 1) := by decide +kernel
theorem dX3_init_1 : decode cX3_init 1 = .ok (.invokespecial 3, 3) := by decide +kernel
theorem dX3_init_4 : decode cX3_init 4 = .ok (.aload_n 0, 1) := by decide +kernel
theorem dX3_init_5 : decode cX3_init 5 = .ok (.sipush 500, 3) := by decide +kernel
theorem dX3_init_8 : decode cX3_init 8 = .ok (.newarray .int, 2) := by decide +kernel
theorem dX3_init_10 : decode cX3_init 10 = .ok (.putfield 9, 3) := by decide +kernel
theorem dX3_init_13 : decode cX3_init 13 = .ok (.aload_n 0, 1) := by decide +kernel
theorem dX3_init_14 : decode cX3_init 14 = .ok (.iconst (-1), 1) := by decide +kernel
theorem dX3_init_15 : decode cX3_init 15 = .ok (.putfield 15, 3) := by decide +kernel
theorem dX3_init_18 : decode cX3_init 18 = .ok (.return_, 1) := by decide +kernel
theorem dX3_hasRoomForRow_0 : decode cX3_hasRoomForRow 0 = .ok (.aload_n 0, 1) := by decide +kernel
theorem dX3_hasRoomForRow_1 : decode cX3_hasRoomForRow 1 = .ok (.getfield 19, 3) := by decide +kernel
theorem dX3_hasRoomForRow_4 : decode cX3_hasRoomForRow 4 = .ok (.bipush 20, 2) := by decide +kernel
theorem dX3_hasRoomForRow_6 : decode cX3_hasRoomForRow 6 = .ok (.iadd, 1) := by decide +kernel
theorem dX3_hasRoomForRow_7 : decode cX3_hasRoomForRow 7 = .ok (.sipush 500, 3) := by decide +kernel
theorem dX3_hasRoomForRow_10 : decode cX3_hasRoomForRow 10 = .ok (.if_icmp .gt 7, 3) := by decide +kernel
theorem dX3_hasRoomForRow_13 : decode cX3_hasRoomForRow 13 = .ok (.iconst 1, 1) := by decide +kernel
theorem dX3_hasRoomForRow_14 : decode cX3_hasRoomForRow 14 = .ok (.goto 4, 3) := by decide +kernel
theorem dX3_hasRoomForRow_17 : decode cX3_hasRoomForRow 17 = .ok (.iconst 0, 1) := by decide +kernel
theorem dX3_hasRoomForRow_18 : decode cX3_hasRoomForRow 18 = .ok (.ireturn, 1) := by decide +kernel
theorem dX3_putFourBytes_0 : decode cX3_putFourBytes 0 = .ok (.bipush 24, 2) := by decide +kernel
theorem dX3_putFourBytes_2 : decode cX3_putFourBytes 2 = .ok (.istore_n 2, 1) := by decide +kernel
theorem dX3_putFourBytes_3 : decode cX3_putFourBytes 3 = .ok (.iload_n 2, 1) := by decide +kernel
theorem dX3_putFourBytes_4 : decode cX3_putFourBytes 4 = .ok (.ifCond .lt 45, 3) := by decide +kernel
theorem dX3_putFourBytes_7 : decode cX3_putFourBytes 7 = .ok (.aload_n 0, 1) := by decide +kernel
theorem dX3_putFourBytes_8 : decode cX3_putFourBytes 8 = .ok (.getfield 19, 3) := by decide +kernel
theorem dX3_putFourBytes_11 : decode cX3_putFourBytes 11 = .ok (.sipush 500, 3) := by decide +kernel
theorem dX3_putFourBytes_14 : decode cX3_putFourBytes 14 = .ok (.if_icmp .ge 29, 3) := by decide +kernel
theorem dX3_putFourBytes_17 : decode cX3_putFourBytes 17 = .ok (.aload_n 0, 1) := by decide +kernel
theorem dX3_putFourBytes_18 : decode cX3_putFourBytes 18 = .ok (.getfield 9, 3) := by decide +kernel
theorem dX3_putFourBytes_21 : decode cX3_putFourBytes 21 = .ok (.aload_n 0, 1) := by decide +kernel
theorem dX3_putFourBytes_22 : decode cX3_putFourBytes 22 = .ok (.getfield 19, 3) := by decide +kernel
theorem dX3_putFourBytes_25 : decode cX3_putFourBytes 25 = .ok (.iload_n 1, 1) := by decide +kernel
theorem dX3_putFourBytes_26 : decode cX3_putFourBytes 26 = .ok (.iload_n 2, 1) := by decide +kernel
theorem dX3_putFourBytes_27 : decode cX3_putFourBytes 27 = .ok (.ishr, 1) := by decide +kernel
theorem dX3_putFourBytes_28 : decode cX3_putFourBytes 28 = .ok (.sipush 255, 3) := by decide +kernel
theorem dX3_putFourBytes_31 : decode cX3_putFourBytes 31 = .ok (.iand, 1) := by decide +kernel
theorem dX3_putFourBytes_32 : decode cX3_putFourBytes 32 = .ok (.iastore, 1) := by decide +kernel
theorem dX3_putFourBytes_33 : decode cX3_putFourBytes 33 = .ok (.aload_n 0, 1) := by decide +kernel
theorem dX3_putFourBytes_34 : decode cX3_putFourBytes 34 = .ok (.dup, 1) := by decide +kernel
theorem dX3_putFourBytes_35 : decode cX3_putFourBytes 35 = .ok (.getfield 19, 3) := by decide +kernel
theorem dX3_putFourBytes_38 : decode cX3_putFourBytes 38 = .ok (.iconst 1, 1) := by decide +kernel
theorem dX3_putFourBytes_39 : decode cX3_putFourBytes 39 = .ok (.iadd, 1) := by decide +kernel
theorem dX3_putFourBytes_40 : decode cX3_putFourBytes 40 = .ok (.putfield 19, 3) := by decide +kernel
theorem dX3_putFourBytes_43 : decode cX3_putFourBytes 43 = .ok (.iinc 2 (-8), 3) := by decide +kernel
theorem dX3_putFourBytes_46 : decode cX3_putFourBytes 46 = .ok (.goto (-43), 3) := by decide +kernel
theorem dX3_putFourBytes_49 : decode cX3_putFourBytes 49 = .ok (.return_, 1) := by decide +kernel
theorem dX3_beginReading_0 : decode cX3_beginReading 0 = .ok (.aload_n 0, 1) := by decide +kernel
theorem dX3_beginReading_1 : decode cX3_beginReading 1 = .ok (.iconst 0, 1) := by decide +kernel
theorem dX3_beginReading_2 : decode cX3_beginReading 2 = .ok (.putfield 22, 3) := by decide +kernel
theorem dX3_beginReading_5 : decode cX3_beginReading 5 = .ok (.aload_n 0, 1) := by decide +kernel
theorem dX3_beginReading_6 : decode cX3_beginReading 6 = .ok (.iconst (-1), 1) := by decide +kernel
theorem dX3_beginReading_7 : decode cX3_beginReading 7 = .ok (.putfield 15, 3) := by decide +kernel
theorem dX3_beginReading_10 : decode cX3_beginReading 10 = .ok (.aload_n 0, 1) := by decide +kernel
theorem dX3_beginReading_11 : decode cX3_beginReading 11 = .ok (.iconst 0, 1) := by decide +kernel
theorem dX3_beginReading_12 : decode cX3_beginReading 12 = .ok (.putfield 25, 3) := by decide +kernel
theorem dX3_beginReading_15 : decode cX3_beginReading 15 = .ok (.aload_n 0, 1) := by decide +kernel
theorem dX3_beginReading_16 : decode cX3_beginReading 16 = .ok (.invokevirtual 28, 3) := by decide +kernel
theorem dX3_beginReading_19 : decode cX3_beginReading 19 = .ok (.return_, 1) := by decide +kernel
theorem dX3_hasFault_0 : decode cX3_hasFault 0 = .ok (.aload_n 0, 1) := by decide +kernel
theorem dX3_hasFault_1 : decode cX3_hasFault 1 = .ok (.getfield 22, 3) := by decide +kernel
theorem dX3_hasFault_4 : decode cX3_hasFault 4 = .ok (.ifCond .eq 7, 3) := by decide +kernel
theorem dX3_hasFault_7 : decode cX3_hasFault 7 = .ok (.iconst 1, 1) := by decide +kernel
theorem dX3_hasFault_8 : decode cX3_hasFault 8 = .ok (.goto 4, 3) := by decide +kernel
theorem dX3_hasFault_11 : decode cX3_hasFault 11 = .ok (.iconst 0, 1) := by decide +kernel
theorem dX3_hasFault_12 : decode cX3_hasFault 12 = .ok (.ireturn, 1) := by decide +kernel
theorem dX3_fail_0 : decode cX3_fail 0 = .ok (.aload_n 0, 1) := by decide +kernel
theorem dX3_fail_1 : decode cX3_fail 1 = .ok (.getfield 22, 3) := by decide +kernel
theorem dX3_fail_4 : decode cX3_fail 4 = .ok (.ifCond .ne 16, 3) := by decide +kernel
theorem dX3_fail_7 : decode cX3_fail 7 = .ok (.aload_n 0, 1) := by decide +kernel
theorem dX3_fail_8 : decode cX3_fail 8 = .ok (.iload_n 1, 1) := by decide +kernel
theorem dX3_fail_9 : decode cX3_fail 9 = .ok (.putfield 22, 3) := by decide +kernel
theorem dX3_fail_12 : decode cX3_fail 12 = .ok (.aload_n 0, 1) := by decide +kernel
theorem dX3_fail_13 : decode cX3_fail 13 = .ok (.aload_n 0, 1) := by decide +kernel
theorem dX3_fail_14 : decode cX3_fail 14 = .ok (.getfield 31, 3) := by decide +kernel
theorem dX3_fail_17 : decode cX3_fail 17 = .ok (.putfield 15, 3) := by decide +kernel
theorem dX3_fail_20 : decode cX3_fail 20 = .ok (.return_, 1) := by decide +kernel
theorem dX3_readToken_0 : decode cX3_readToken 0 = .ok (.aload_n 0, 1) := by decide +kernel
theorem dX3_readToken_1 : decode cX3_readToken 1 = .ok (.aload_n 0, 1) := by decide +kernel
theorem dX3_readToken_2 : decode cX3_readToken 2 = .ok (.getfield 25, 3) := by decide +kernel
theorem dX3_readToken_5 : decode cX3_readToken 5 = .ok (.putfield 31, 3) := by decide +kernel
theorem dX3_readToken_8 : decode cX3_readToken 8 = .ok (.aload_n 0, 1) := by decide +kernel
theorem dX3_readToken_9 : decode cX3_readToken 9 = .ok (.getfield 31, 3) := by decide +kernel
theorem dX3_readToken_12 : decode cX3_readToken 12 = .ok (.aload_n 0, 1) := by decide +kernel
theorem dX3_readToken_13 : decode cX3_readToken 13 = .ok (.getfield 19, 3) := by decide +kernel
theorem dX3_readToken_16 : decode cX3_readToken 16 = .ok (.if_icmp .ge 30, 3) := by decide +kernel
theorem dX3_readToken_19 : decode cX3_readToken 19 = .ok (.aload_n 0, 1) := by decide +kernel
theorem dX3_readToken_20 : decode cX3_readToken 20 = .ok (.getfield 9, 3) := by decide +kernel
theorem dX3_readToken_23 : decode cX3_readToken 23 = .ok (.aload_n 0, 1) := by decide +kernel
theorem dX3_readToken_24 : decode cX3_readToken 24 = .ok (.getfield 31, 3) := by decide +kernel
theorem dX3_readToken_27 : decode cX3_readToken 27 = .ok (.iaload, 1) := by decide +kernel
theorem dX3_readToken_28 : decode cX3_readToken 28 = .ok (.bipush 32, 2) := by decide +kernel
theorem dX3_readToken_30 : decode cX3_readToken 30 = .ok (.if_icmp .ne 16, 3) := by decide +kernel
theorem dX3_readToken_33 : decode cX3_readToken 33 = .ok (.aload_n 0, 1) := by decide +kernel
theorem dX3_readToken_34 : decode cX3_readToken 34 = .ok (.dup, 1) := by decide +kernel
theorem dX3_readToken_35 : decode cX3_readToken 35 = .ok (.getfield 31, 3) := by decide +kernel
theorem dX3_readToken_38 : decode cX3_readToken 38 = .ok (.iconst 1, 1) := by decide +kernel
theorem dX3_readToken_39 : decode cX3_readToken 39 = .ok (.iadd, 1) := by decide +kernel
theorem dX3_readToken_40 : decode cX3_readToken 40 = .ok (.putfield 31, 3) := by decide +kernel
theorem dX3_readToken_43 : decode cX3_readToken 43 = .ok (.goto (-35), 3) := by decide +kernel
theorem dX3_readToken_46 : decode cX3_readToken 46 = .ok (.aload_n 0, 1) := by decide +kernel
theorem dX3_readToken_47 : decode cX3_readToken 47 = .ok (.aload_n 0, 1) := by decide +kernel
theorem dX3_readToken_48 : decode cX3_readToken 48 = .ok (.getfield 31, 3) := by decide +kernel
theorem dX3_readToken_51 : decode cX3_readToken 51 = .ok (.putfield 25, 3) := by decide +kernel
theorem dX3_readToken_54 : decode cX3_readToken 54 = .ok (.aload_n 0, 1) := by decide +kernel
theorem dX3_readToken_55 : decode cX3_readToken 55 = .ok (.getfield 31, 3) := by decide +kernel
theorem dX3_readToken_58 : decode cX3_readToken 58 = .ok (.aload_n 0, 1) := by decide +kernel
theorem dX3_readToken_59 : decode cX3_readToken 59 = .ok (.getfield 19, 3) := by decide +kernel
theorem dX3_readToken_62 : decode cX3_readToken 62 = .ok (.if_icmp .lt 11, 3) := by decide +kernel
theorem dX3_readToken_65 : decode cX3_readToken 65 = .ok (.aload_n 0, 1) := by decide +kernel
theorem dX3_readToken_66 : decode cX3_readToken 66 = .ok (.iconst 0, 1) := by decide +kernel
theorem dX3_readToken_67 : decode cX3_readToken 67 = .ok (.putfield 34, 3) := by decide +kernel
theorem dX3_readToken_70 : decode cX3_readToken 70 = .ok (.goto 80, 3) := by decide +kernel
theorem dX3_readToken_73 : decode cX3_readToken 73 = .ok (.aload_n 0, 1) := by decide +kernel
theorem dX3_readToken_74 : decode cX3_readToken 74 = .ok (.getfield 9, 3) := by decide +kernel
theorem dX3_readToken_77 : decode cX3_readToken 77 = .ok (.aload_n 0, 1) := by decide +kernel
theorem dX3_readToken_78 : decode cX3_readToken 78 = .ok (.getfield 31, 3) := by decide +kernel
theorem dX3_readToken_81 : decode cX3_readToken 81 = .ok (.iaload, 1) := by decide +kernel
theorem dX3_readToken_82 : decode cX3_readToken 82 = .ok (.invokestatic 37, 3) := by decide +kernel
theorem dX3_readToken_85 : decode cX3_readToken 85 = .ok (.ifCond .eq 10, 3) := by decide +kernel
theorem dX3_readToken_88 : decode cX3_readToken 88 = .ok (.aload_n 0, 1) := by decide +kernel
theorem dX3_readToken_89 : decode cX3_readToken 89 = .ok (.invokevirtual 41, 3) := by decide +kernel
theorem dX3_readToken_92 : decode cX3_readToken 92 = .ok (.goto 58, 3) := by decide +kernel
theorem dX3_readToken_95 : decode cX3_readToken 95 = .ok (.aload_n 0, 1) := by decide +kernel
theorem dX3_readToken_96 : decode cX3_readToken 96 = .ok (.getfield 9, 3) := by decide +kernel
theorem dX3_readToken_99 : decode cX3_readToken 99 = .ok (.aload_n 0, 1) := by decide +kernel
theorem dX3_readToken_100 : decode cX3_readToken 100 = .ok (.getfield 31, 3) := by decide +kernel
theorem dX3_readToken_103 : decode cX3_readToken 103 = .ok (.iaload, 1) := by decide +kernel
theorem dX3_readToken_104 : decode cX3_readToken 104 = .ok (.invokestatic 44, 3) := by decide +kernel
theorem dX3_readToken_107 : decode cX3_readToken 107 = .ok (.ifCond .eq 10, 3) := by decide +kernel
theorem dX3_readToken_110 : decode cX3_readToken 110 = .ok (.aload_n 0, 1) := by decide +kernel
theorem dX3_readToken_111 : decode cX3_readToken 111 = .ok (.invokevirtual 47, 3) := by decide +kernel
theorem dX3_readToken_114 : decode cX3_readToken 114 = .ok (.goto 36, 3) := by decide +kernel
theorem dX3_readToken_117 : decode cX3_readToken 117 = .ok (.aload_n 0, 1) := by decide +kernel
theorem dX3_readToken_118 : decode cX3_readToken 118 = .ok (.aload_n 0, 1) := by decide +kernel
theorem dX3_readToken_119 : decode cX3_readToken 119 = .ok (.getfield 9, 3) := by decide +kernel
theorem dX3_readToken_122 : decode cX3_readToken 122 = .ok (.aload_n 0, 1) := by decide +kernel
theorem dX3_readToken_123 : decode cX3_readToken 123 = .ok (.getfield 31, 3) := by decide +kernel
theorem dX3_readToken_126 : decode cX3_readToken 126 = .ok (.iaload, 1) := by decide +kernel
theorem dX3_readToken_127 : decode cX3_readToken 127 = .ok (.bipush 59, 2) := by decide +kernel
theorem dX3_readToken_129 : decode cX3_readToken 129 = .ok (.if_icmp .ne 7, 3) := by decide +kernel
theorem dX3_readToken_132 : decode cX3_readToken 132 = .ok (.iconst 3, 1) := by decide +kernel
theorem dX3_readToken_133 : decode cX3_readToken 133 = .ok (.goto 4, 3) := by decide +kernel
theorem dX3_readToken_136 : decode cX3_readToken 136 = .ok (.iconst 4, 1) := by decide +kernel
theorem dX3_readToken_137 : decode cX3_readToken 137 = .ok (.putfield 34, 3) := by decide +kernel
theorem dX3_readToken_140 : decode cX3_readToken 140 = .ok (.aload_n 0, 1) := by decide +kernel
theorem dX3_readToken_141 : decode cX3_readToken 141 = .ok (.aload_n 0, 1) := by decide +kernel
theorem dX3_readToken_142 : decode cX3_readToken 142 = .ok (.getfield 31, 3) := by decide +kernel
theorem dX3_readToken_145 : decode cX3_readToken 145 = .ok (.iconst 1, 1) := by decide +kernel
theorem dX3_readToken_146 : decode cX3_readToken 146 = .ok (.iadd, 1) := by decide +kernel
theorem dX3_readToken_147 : decode cX3_readToken 147 = .ok (.putfield 25, 3) := by decide +kernel
theorem dX3_readToken_150 : decode cX3_readToken 150 = .ok (.return_, 1) := by decide +kernel
theorem dX3_readWord_0 : decode cX3_readWord 0 = .ok (.aload_n 0, 1) := by decide +kernel
theorem dX3_readWord_1 : decode cX3_readWord 1 = .ok (.iconst 1, 1) := by decide +kernel
theorem dX3_readWord_2 : decode cX3_readWord 2 = .ok (.putfield 34, 3) := by decide +kernel
theorem dX3_readWord_5 : decode cX3_readWord 5 = .ok (.aload_n 0, 1) := by decide +kernel
theorem dX3_readWord_6 : decode cX3_readWord 6 = .ok (.getfield 25, 3) := by decide +kernel
theorem dX3_readWord_9 : decode cX3_readWord 9 = .ok (.aload_n 0, 1) := by decide +kernel
theorem dX3_readWord_10 : decode cX3_readWord 10 = .ok (.getfield 19, 3) := by decide +kernel
theorem dX3_readWord_13 : decode cX3_readWord 13 = .ok (.if_icmp .ge 31, 3) := by decide +kernel
theorem dX3_readWord_16 : decode cX3_readWord 16 = .ok (.aload_n 0, 1) := by decide +kernel
theorem dX3_readWord_17 : decode cX3_readWord 17 = .ok (.getfield 9, 3) := by decide +kernel
theorem dX3_readWord_20 : decode cX3_readWord 20 = .ok (.aload_n 0, 1) := by decide +kernel
theorem dX3_readWord_21 : decode cX3_readWord 21 = .ok (.getfield 25, 3) := by decide +kernel
theorem dX3_readWord_24 : decode cX3_readWord 24 = .ok (.iaload, 1) := by decide +kernel
theorem dX3_readWord_25 : decode cX3_readWord 25 = .ok (.invokestatic 37, 3) := by decide +kernel
theorem dX3_readWord_28 : decode cX3_readWord 28 = .ok (.ifCond .eq 16, 3) := by decide +kernel
theorem dX3_readWord_31 : decode cX3_readWord 31 = .ok (.aload_n 0, 1) := by decide +kernel
theorem dX3_readWord_32 : decode cX3_readWord 32 = .ok (.dup, 1) := by decide +kernel
theorem dX3_readWord_33 : decode cX3_readWord 33 = .ok (.getfield 25, 3) := by decide +kernel
theorem dX3_readWord_36 : decode cX3_readWord 36 = .ok (.iconst 1, 1) := by decide +kernel
theorem dX3_readWord_37 : decode cX3_readWord 37 = .ok (.iadd, 1) := by decide +kernel
theorem dX3_readWord_38 : decode cX3_readWord 38 = .ok (.putfield 25, 3) := by decide +kernel
theorem dX3_readWord_41 : decode cX3_readWord 41 = .ok (.goto (-36), 3) := by decide +kernel
theorem dX3_readWord_44 : decode cX3_readWord 44 = .ok (.return_, 1) := by decide +kernel
theorem dX3_readNumber_0 : decode cX3_readNumber 0 = .ok (.aload_n 0, 1) := by decide +kernel
theorem dX3_readNumber_1 : decode cX3_readNumber 1 = .ok (.iconst 2, 1) := by decide +kernel
theorem dX3_readNumber_2 : decode cX3_readNumber 2 = .ok (.putfield 34, 3) := by decide +kernel
theorem dX3_readNumber_5 : decode cX3_readNumber 5 = .ok (.aload_n 0, 1) := by decide +kernel
theorem dX3_readNumber_6 : decode cX3_readNumber 6 = .ok (.iconst 0, 1) := by decide +kernel
theorem dX3_readNumber_7 : decode cX3_readNumber 7 = .ok (.putfield 50, 3) := by decide +kernel
theorem dX3_readNumber_10 : decode cX3_readNumber 10 = .ok (.aload_n 0, 1) := by decide +kernel
theorem dX3_readNumber_11 : decode cX3_readNumber 11 = .ok (.getfield 25, 3) := by decide +kernel
theorem dX3_readNumber_14 : decode cX3_readNumber 14 = .ok (.aload_n 0, 1) := by decide +kernel
theorem dX3_readNumber_15 : decode cX3_readNumber 15 = .ok (.getfield 19, 3) := by decide +kernel
theorem dX3_readNumber_18 : decode cX3_readNumber 18 = .ok (.if_icmp .ge 60, 3) := by decide +kernel
theorem dX3_readNumber_21 : decode cX3_readNumber 21 = .ok (.aload_n 0, 1) := by decide +kernel
theorem dX3_readNumber_22 : decode cX3_readNumber 22 = .ok (.getfield 9, 3) := by decide +kernel
theorem dX3_readNumber_25 : decode cX3_readNumber 25 = .ok (.aload_n 0, 1) := by decide +kernel
theorem dX3_readNumber_26 : decode cX3_readNumber 26 = .ok (.getfield 25, 3) := by decide +kernel
theorem dX3_readNumber_29 : decode cX3_readNumber 29 = .ok (.iaload, 1) := by decide +kernel
theorem dX3_readNumber_30 : decode cX3_readNumber 30 = .ok (.invokestatic 44, 3) := by decide +kernel
theorem dX3_readNumber_33 : decode cX3_readNumber 33 = .ok (.ifCond .eq 45, 3) := by decide +kernel
theorem dX3_readNumber_36 : decode cX3_readNumber 36 = .ok (.aload_n 0, 1) := by decide +kernel
theorem dX3_readNumber_37 : decode cX3_readNumber 37 = .ok (.aload_n 0, 1) := by decide +kernel
theorem dX3_readNumber_38 : decode cX3_readNumber 38 = .ok (.getfield 50, 3) := by decide +kernel
theorem dX3_readNumber_41 : decode cX3_readNumber 41 = .ok (.bipush 10, 2) := by decide +kernel
theorem dX3_readNumber_43 : decode cX3_readNumber 43 = .ok (.imul, 1) := by decide +kernel
theorem dX3_readNumber_44 : decode cX3_readNumber 44 = .ok (.aload_n 0, 1) := by decide +kernel
theorem dX3_readNumber_45 : decode cX3_readNumber 45 = .ok (.getfield 9, 3) := by decide +kernel
theorem dX3_readNumber_48 : decode cX3_readNumber 48 = .ok (.aload_n 0, 1) := by decide +kernel
theorem dX3_readNumber_49 : decode cX3_readNumber 49 = .ok (.getfield 25, 3) := by decide +kernel
theorem dX3_readNumber_52 : decode cX3_readNumber 52 = .ok (.iaload, 1) := by decide +kernel
theorem dX3_readNumber_53 : decode cX3_readNumber 53 = .ok (.iadd, 1) := by decide +kernel
theorem dX3_readNumber_54 : decode cX3_readNumber 54 = .ok (.bipush 48, 2) := by decide +kernel
theorem dX3_readNumber_56 : decode cX3_readNumber 56 = .ok (.isub, 1) := by decide +kernel
theorem dX3_readNumber_57 : decode cX3_readNumber 57 = .ok (.ldc 53, 2) := by decide +kernel
theorem dX3_readNumber_59 : decode cX3_readNumber 59 = .ok (.invokestatic 54, 3) := by decide +kernel
theorem dX3_readNumber_62 : decode cX3_readNumber 62 = .ok (.putfield 50, 3) := by decide +kernel
theorem dX3_readNumber_65 : decode cX3_readNumber 65 = .ok (.aload_n 0, 1) := by decide +kernel
theorem dX3_readNumber_66 : decode cX3_readNumber 66 = .ok (.dup, 1) := by decide +kernel
theorem dX3_readNumber_67 : decode cX3_readNumber 67 = .ok (.getfield 25, 3) := by decide +kernel
theorem dX3_readNumber_70 : decode cX3_readNumber 70 = .ok (.iconst 1, 1) := by decide +kernel
theorem dX3_readNumber_71 : decode cX3_readNumber 71 = .ok (.iadd, 1) := by decide +kernel
theorem dX3_readNumber_72 : decode cX3_readNumber 72 = .ok (.putfield 25, 3) := by decide +kernel
theorem dX3_readNumber_75 : decode cX3_readNumber 75 = .ok (.goto (-65), 3) := by decide +kernel
theorem dX3_readNumber_78 : decode cX3_readNumber 78 = .ok (.return_, 1) := by decide +kernel
theorem dX3_isLetter_0 : decode cX3_isLetter 0 = .ok (.iload_n 0, 1) := by decide +kernel
theorem dX3_isLetter_1 : decode cX3_isLetter 1 = .ok (.bipush 97, 2) := by decide +kernel
theorem dX3_isLetter_3 : decode cX3_isLetter 3 = .ok (.if_icmp .lt 13, 3) := by decide +kernel
theorem dX3_isLetter_6 : decode cX3_isLetter 6 = .ok (.iload_n 0, 1) := by decide +kernel
theorem dX3_isLetter_7 : decode cX3_isLetter 7 = .ok (.bipush 122, 2) := by decide +kernel
theorem dX3_isLetter_9 : decode cX3_isLetter 9 = .ok (.if_icmp .gt 7, 3) := by decide +kernel
theorem dX3_isLetter_12 : decode cX3_isLetter 12 = .ok (.iconst 1, 1) := by decide +kernel
theorem dX3_isLetter_13 : decode cX3_isLetter 13 = .ok (.goto 4, 3) := by decide +kernel
theorem dX3_isLetter_16 : decode cX3_isLetter 16 = .ok (.iconst 0, 1) := by decide +kernel
theorem dX3_isLetter_17 : decode cX3_isLetter 17 = .ok (.ireturn, 1) := by decide +kernel
theorem dX3_isDigit_0 : decode cX3_isDigit 0 = .ok (.iload_n 0, 1) := by decide +kernel
theorem dX3_isDigit_1 : decode cX3_isDigit 1 = .ok (.bipush 48, 2) := by decide +kernel
theorem dX3_isDigit_3 : decode cX3_isDigit 3 = .ok (.if_icmp .lt 13, 3) := by decide +kernel
theorem dX3_isDigit_6 : decode cX3_isDigit 6 = .ok (.iload_n 0, 1) := by decide +kernel
theorem dX3_isDigit_7 : decode cX3_isDigit 7 = .ok (.bipush 57, 2) := by decide +kernel
theorem dX3_isDigit_9 : decode cX3_isDigit 9 = .ok (.if_icmp .gt 7, 3) := by decide +kernel
theorem dX3_isDigit_12 : decode cX3_isDigit 12 = .ok (.iconst 1, 1) := by decide +kernel
theorem dX3_isDigit_13 : decode cX3_isDigit 13 = .ok (.goto 4, 3) := by decide +kernel
theorem dX3_isDigit_16 : decode cX3_isDigit 16 = .ok (.iconst 0, 1) := by decide +kernel
theorem dX3_isDigit_17 : decode cX3_isDigit 17 = .ok (.ireturn, 1) := by decide +kernel
theorem dX3_isAtEnd_0 : decode cX3_isAtEnd 0 = .ok (.aload_n 0, 1) := by decide +kernel
theorem dX3_isAtEnd_1 : decode cX3_isAtEnd 1 = .ok (.invokevirtual 60, 3) := by decide +kernel
theorem dX3_isAtEnd_4 : decode cX3_isAtEnd 4 = .ok (.ifCond .ne 10, 3) := by decide +kernel
theorem dX3_isAtEnd_7 : decode cX3_isAtEnd 7 = .ok (.aload_n 0, 1) := by decide +kernel
theorem dX3_isAtEnd_8 : decode cX3_isAtEnd 8 = .ok (.getfield 34, 3) := by decide +kernel
theorem dX3_isAtEnd_11 : decode cX3_isAtEnd 11 = .ok (.ifCond .ne 7, 3) := by decide +kernel
theorem dX3_isAtEnd_14 : decode cX3_isAtEnd 14 = .ok (.iconst 1, 1) := by decide +kernel
theorem dX3_isAtEnd_15 : decode cX3_isAtEnd 15 = .ok (.goto 4, 3) := by decide +kernel
theorem dX3_isAtEnd_18 : decode cX3_isAtEnd 18 = .ok (.iconst 0, 1) := by decide +kernel
theorem dX3_isAtEnd_19 : decode cX3_isAtEnd 19 = .ok (.ireturn, 1) := by decide +kernel
theorem dX3_isAtNumber_0 : decode cX3_isAtNumber 0 = .ok (.aload_n 0, 1) := by decide +kernel
theorem dX3_isAtNumber_1 : decode cX3_isAtNumber 1 = .ok (.invokevirtual 60, 3) := by decide +kernel
theorem dX3_isAtNumber_4 : decode cX3_isAtNumber 4 = .ok (.ifCond .ne 15, 3) := by decide +kernel
theorem dX3_isAtNumber_7 : decode cX3_isAtNumber 7 = .ok (.aload_n 0, 1) := by decide +kernel
theorem dX3_isAtNumber_8 : decode cX3_isAtNumber 8 = .ok (.getfield 34, 3) := by decide +kernel
theorem dX3_isAtNumber_11 : decode cX3_isAtNumber 11 = .ok (.iconst 2, 1) := by decide +kernel
theorem dX3_isAtNumber_12 : decode cX3_isAtNumber 12 = .ok (.if_icmp .ne 7, 3) := by decide +kernel
theorem dX3_isAtNumber_15 : decode cX3_isAtNumber 15 = .ok (.iconst 1, 1) := by decide +kernel
theorem dX3_isAtNumber_16 : decode cX3_isAtNumber 16 = .ok (.goto 4, 3) := by decide +kernel
theorem dX3_isAtNumber_19 : decode cX3_isAtNumber 19 = .ok (.iconst 0, 1) := by decide +kernel
theorem dX3_isAtNumber_20 : decode cX3_isAtNumber 20 = .ok (.ireturn, 1) := by decide +kernel
theorem dX3_isAtWord_0 : decode cX3_isAtWord 0 = .ok (.aload_n 0, 1) := by decide +kernel
theorem dX3_isAtWord_1 : decode cX3_isAtWord 1 = .ok (.invokevirtual 60, 3) := by decide +kernel
theorem dX3_isAtWord_4 : decode cX3_isAtWord 4 = .ok (.ifCond .ne 27, 3) := by decide +kernel
theorem dX3_isAtWord_7 : decode cX3_isAtWord 7 = .ok (.aload_n 0, 1) := by decide +kernel
theorem dX3_isAtWord_8 : decode cX3_isAtWord 8 = .ok (.getfield 34, 3) := by decide +kernel
theorem dX3_isAtWord_11 : decode cX3_isAtWord 11 = .ok (.iconst 1, 1) := by decide +kernel
theorem dX3_isAtWord_12 : decode cX3_isAtWord 12 = .ok (.if_icmp .ne 19, 3) := by decide +kernel
theorem dX3_isAtWord_15 : decode cX3_isAtWord 15 = .ok (.aload_n 0, 1) := by decide +kernel
theorem dX3_isAtWord_16 : decode cX3_isAtWord 16 = .ok (.getfield 25, 3) := by decide +kernel
theorem dX3_isAtWord_19 : decode cX3_isAtWord 19 = .ok (.aload_n 0, 1) := by decide +kernel
theorem dX3_isAtWord_20 : decode cX3_isAtWord 20 = .ok (.getfield 31, 3) := by decide +kernel
theorem dX3_isAtWord_23 : decode cX3_isAtWord 23 = .ok (.isub, 1) := by decide +kernel
theorem dX3_isAtWord_24 : decode cX3_isAtWord 24 = .ok (.aload_n 1, 1) := by decide +kernel
theorem dX3_isAtWord_25 : decode cX3_isAtWord 25 = .ok (.invokevirtual 64, 3) := by decide +kernel
theorem dX3_isAtWord_28 : decode cX3_isAtWord 28 = .ok (.if_icmp .eq 5, 3) := by decide +kernel
theorem dX3_isAtWord_31 : decode cX3_isAtWord 31 = .ok (.iconst 0, 1) := by decide +kernel
theorem dX3_isAtWord_32 : decode cX3_isAtWord 32 = .ok (.ireturn, 1) := by decide +kernel
theorem dX3_isAtWord_33 : decode cX3_isAtWord 33 = .ok (.iconst 0, 1) := by decide +kernel
theorem dX3_isAtWord_34 : decode cX3_isAtWord 34 = .ok (.istore_n 2, 1) := by decide +kernel
theorem dX3_isAtWord_35 : decode cX3_isAtWord 35 = .ok (.iload_n 2, 1) := by decide +kernel
theorem dX3_isAtWord_36 : decode cX3_isAtWord 36 = .ok (.aload_n 1, 1) := by decide +kernel
theorem dX3_isAtWord_37 : decode cX3_isAtWord 37 = .ok (.invokevirtual 64, 3) := by decide +kernel
theorem dX3_isAtWord_40 : decode cX3_isAtWord 40 = .ok (.if_icmp .ge 30, 3) := by decide +kernel
theorem dX3_isAtWord_43 : decode cX3_isAtWord 43 = .ok (.aload_n 0, 1) := by decide +kernel
theorem dX3_isAtWord_44 : decode cX3_isAtWord 44 = .ok (.getfield 9, 3) := by decide +kernel
theorem dX3_isAtWord_47 : decode cX3_isAtWord 47 = .ok (.aload_n 0, 1) := by decide +kernel
theorem dX3_isAtWord_48 : decode cX3_isAtWord 48 = .ok (.getfield 31, 3) := by decide +kernel
theorem dX3_isAtWord_51 : decode cX3_isAtWord 51 = .ok (.iload_n 2, 1) := by decide +kernel
theorem dX3_isAtWord_52 : decode cX3_isAtWord 52 = .ok (.iadd, 1) := by decide +kernel
theorem dX3_isAtWord_53 : decode cX3_isAtWord 53 = .ok (.iaload, 1) := by decide +kernel
theorem dX3_isAtWord_54 : decode cX3_isAtWord 54 = .ok (.aload_n 1, 1) := by decide +kernel
theorem dX3_isAtWord_55 : decode cX3_isAtWord 55 = .ok (.iload_n 2, 1) := by decide +kernel
theorem dX3_isAtWord_56 : decode cX3_isAtWord 56 = .ok (.invokevirtual 69, 3) := by decide +kernel
theorem dX3_isAtWord_59 : decode cX3_isAtWord 59 = .ok (.if_icmp .eq 5, 3) := by decide +kernel
theorem dX3_isAtWord_62 : decode cX3_isAtWord 62 = .ok (.iconst 0, 1) := by decide +kernel
theorem dX3_isAtWord_63 : decode cX3_isAtWord 63 = .ok (.ireturn, 1) := by decide +kernel
theorem dX3_isAtWord_64 : decode cX3_isAtWord 64 = .ok (.iinc 2 1, 3) := by decide +kernel
theorem dX3_isAtWord_67 : decode cX3_isAtWord 67 = .ok (.goto (-32), 3) := by decide +kernel
theorem dX3_isAtWord_70 : decode cX3_isAtWord 70 = .ok (.iconst 1, 1) := by decide +kernel
theorem dX3_isAtWord_71 : decode cX3_isAtWord 71 = .ok (.ireturn, 1) := by decide +kernel
theorem dX3_takeWord_0 : decode cX3_takeWord 0 = .ok (.aload_n 0, 1) := by decide +kernel
theorem dX3_takeWord_1 : decode cX3_takeWord 1 = .ok (.aload_n 1, 1) := by decide +kernel
theorem dX3_takeWord_2 : decode cX3_takeWord 2 = .ok (.invokevirtual 73, 3) := by decide +kernel
theorem dX3_takeWord_5 : decode cX3_takeWord 5 = .ok (.ifCond .eq 10, 3) := by decide +kernel
theorem dX3_takeWord_8 : decode cX3_takeWord 8 = .ok (.aload_n 0, 1) := by decide +kernel
theorem dX3_takeWord_9 : decode cX3_takeWord 9 = .ok (.invokevirtual 28, 3) := by decide +kernel
theorem dX3_takeWord_12 : decode cX3_takeWord 12 = .ok (.goto 8, 3) := by decide +kernel
theorem dX3_takeWord_15 : decode cX3_takeWord 15 = .ok (.aload_n 0, 1) := by decide +kernel
theorem dX3_takeWord_16 : decode cX3_takeWord 16 = .ok (.iconst 1, 1) := by decide +kernel
theorem dX3_takeWord_17 : decode cX3_takeWord 17 = .ok (.invokevirtual 77, 3) := by decide +kernel
theorem dX3_takeWord_20 : decode cX3_takeWord 20 = .ok (.return_, 1) := by decide +kernel
theorem dX3_takeSemicolon_0 : decode cX3_takeSemicolon 0 = .ok (.aload_n 0, 1) := by decide +kernel
theorem dX3_takeSemicolon_1 : decode cX3_takeSemicolon 1 = .ok (.invokevirtual 60, 3) := by decide +kernel
theorem dX3_takeSemicolon_4 : decode cX3_takeSemicolon 4 = .ok (.ifCond .ne 18, 3) := by decide +kernel
theorem dX3_takeSemicolon_7 : decode cX3_takeSemicolon 7 = .ok (.aload_n 0, 1) := by decide +kernel
theorem dX3_takeSemicolon_8 : decode cX3_takeSemicolon 8 = .ok (.getfield 34, 3) := by decide +kernel
theorem dX3_takeSemicolon_11 : decode cX3_takeSemicolon 11 = .ok (.iconst 3, 1) := by decide +kernel
theorem dX3_takeSemicolon_12 : decode cX3_takeSemicolon 12 = .ok (.if_icmp .ne 10, 3) := by decide +kernel
theorem dX3_takeSemicolon_15 : decode cX3_takeSemicolon 15 = .ok (.aload_n 0, 1) := by decide +kernel
theorem dX3_takeSemicolon_16 : decode cX3_takeSemicolon 16 = .ok (.invokevirtual 28, 3) := by decide +kernel
theorem dX3_takeSemicolon_19 : decode cX3_takeSemicolon 19 = .ok (.goto 8, 3) := by decide +kernel
theorem dX3_takeSemicolon_22 : decode cX3_takeSemicolon 22 = .ok (.aload_n 0, 1) := by decide +kernel
theorem dX3_takeSemicolon_23 : decode cX3_takeSemicolon 23 = .ok (.iconst 1, 1) := by decide +kernel
theorem dX3_takeSemicolon_24 : decode cX3_takeSemicolon 24 = .ok (.invokevirtual 77, 3) := by decide +kernel
theorem dX3_takeSemicolon_27 : decode cX3_takeSemicolon 27 = .ok (.return_, 1) := by decide +kernel
theorem dX3_takeNumber_0 : decode cX3_takeNumber 0 = .ok (.aload_n 0, 1) := by decide +kernel
theorem dX3_takeNumber_1 : decode cX3_takeNumber 1 = .ok (.invokevirtual 81, 3) := by decide +kernel
theorem dX3_takeNumber_4 : decode cX3_takeNumber 4 = .ok (.ifCond .ne 10, 3) := by decide +kernel
theorem dX3_takeNumber_7 : decode cX3_takeNumber 7 = .ok (.aload_n 0, 1) := by decide +kernel
theorem dX3_takeNumber_8 : decode cX3_takeNumber 8 = .ok (.iconst 1, 1) := by decide +kernel
theorem dX3_takeNumber_9 : decode cX3_takeNumber 9 = .ok (.invokevirtual 77, 3) := by decide +kernel
theorem dX3_takeNumber_12 : decode cX3_takeNumber 12 = .ok (.iload_n 1, 1) := by decide +kernel
theorem dX3_takeNumber_13 : decode cX3_takeNumber 13 = .ok (.ireturn, 1) := by decide +kernel
theorem dX3_takeNumber_14 : decode cX3_takeNumber 14 = .ok (.aload_n 0, 1) := by decide +kernel
theorem dX3_takeNumber_15 : decode cX3_takeNumber 15 = .ok (.getfield 50, 3) := by decide +kernel
theorem dX3_takeNumber_18 : decode cX3_takeNumber 18 = .ok (.iload_n 1, 1) := by decide +kernel
theorem dX3_takeNumber_19 : decode cX3_takeNumber 19 = .ok (.if_icmp .lt 11, 3) := by decide +kernel
theorem dX3_takeNumber_22 : decode cX3_takeNumber 22 = .ok (.aload_n 0, 1) := by decide +kernel
theorem dX3_takeNumber_23 : decode cX3_takeNumber 23 = .ok (.getfield 50, 3) := by decide +kernel
theorem dX3_takeNumber_26 : decode cX3_takeNumber 26 = .ok (.iload_n 2, 1) := by decide +kernel
theorem dX3_takeNumber_27 : decode cX3_takeNumber 27 = .ok (.if_icmp .le 10, 3) := by decide +kernel
theorem dX3_takeNumber_30 : decode cX3_takeNumber 30 = .ok (.aload_n 0, 1) := by decide +kernel
theorem dX3_takeNumber_31 : decode cX3_takeNumber 31 = .ok (.iconst 2, 1) := by decide +kernel
theorem dX3_takeNumber_32 : decode cX3_takeNumber 32 = .ok (.invokevirtual 77, 3) := by decide +kernel
theorem dX3_takeNumber_35 : decode cX3_takeNumber 35 = .ok (.iload_n 1, 1) := by decide +kernel
theorem dX3_takeNumber_36 : decode cX3_takeNumber 36 = .ok (.ireturn, 1) := by decide +kernel
theorem dX3_takeNumber_37 : decode cX3_takeNumber 37 = .ok (.aload_n 0, 1) := by decide +kernel
theorem dX3_takeNumber_38 : decode cX3_takeNumber 38 = .ok (.getfield 50, 3) := by decide +kernel
theorem dX3_takeNumber_41 : decode cX3_takeNumber 41 = .ok (.istore_n 3, 1) := by decide +kernel
theorem dX3_takeNumber_42 : decode cX3_takeNumber 42 = .ok (.aload_n 0, 1) := by decide +kernel
theorem dX3_takeNumber_43 : decode cX3_takeNumber 43 = .ok (.invokevirtual 28, 3) := by decide +kernel
theorem dX3_takeNumber_46 : decode cX3_takeNumber 46 = .ok (.iload_n 3, 1) := by decide +kernel
theorem dX3_takeNumber_47 : decode cX3_takeNumber 47 = .ok (.ireturn, 1) := by decide +kernel
theorem dX3_takeEnd_0 : decode cX3_takeEnd 0 = .ok (.aload_n 0, 1) := by decide +kernel
theorem dX3_takeEnd_1 : decode cX3_takeEnd 1 = .ok (.invokevirtual 84, 3) := by decide +kernel
theorem dX3_takeEnd_4 : decode cX3_takeEnd 4 = .ok (.ifCond .ne 8, 3) := by decide +kernel
theorem dX3_takeEnd_7 : decode cX3_takeEnd 7 = .ok (.aload_n 0, 1) := by decide +kernel
theorem dX3_takeEnd_8 : decode cX3_takeEnd 8 = .ok (.iconst 1, 1) := by decide +kernel
theorem dX3_takeEnd_9 : decode cX3_takeEnd 9 = .ok (.invokevirtual 77, 3) := by decide +kernel
theorem dX3_takeEnd_12 : decode cX3_takeEnd 12 = .ok (.return_, 1) := by decide +kernel
theorem dX4_init_0 : decode cX4_init 0 = .ok (.aload_n 0, 1) := by decide +kernel
theorem dX4_init_1 : decode cX4_init 1 = .ok (.invokespecial 3, 3) := by decide +kernel
theorem dX4_init_4 : decode cX4_init 4 = .ok (.aload_n 0, 1) := by decide +kernel
theorem dX4_init_5 : decode cX4_init 5 = .ok (.new 9, 3) := by decide +kernel
theorem dX4_init_8 : decode cX4_init 8 = .ok (.dup, 1) := by decide +kernel
theorem dX4_init_9 : decode cX4_init 9 = .ok (.invokespecial 11, 3) := by decide +kernel
theorem dX4_init_12 : decode cX4_init 12 = .ok (.putfield 12, 3) := by decide +kernel
theorem dX4_init_15 : decode cX4_init 15 = .ok (.aload_n 0, 1) := by decide +kernel
theorem dX4_init_16 : decode cX4_init 16 = .ok (.new 18, 3) := by decide +kernel
theorem dX4_init_19 : decode cX4_init 19 = .ok (.dup, 1) := by decide +kernel
theorem dX4_init_20 : decode cX4_init 20 = .ok (.invokespecial 20, 3) := by decide +kernel
theorem dX4_init_23 : decode cX4_init 23 = .ok (.putfield 21, 3) := by decide +kernel
theorem dX4_init_26 : decode cX4_init 26 = .ok (.aload_n 0, 1) := by decide +kernel
theorem dX4_init_27 : decode cX4_init 27 = .ok (.new 25, 3) := by decide +kernel
theorem dX4_init_30 : decode cX4_init 30 = .ok (.dup, 1) := by decide +kernel
theorem dX4_init_31 : decode cX4_init 31 = .ok (.invokespecial 27, 3) := by decide +kernel
theorem dX4_init_34 : decode cX4_init 34 = .ok (.putfield 28, 3) := by decide +kernel
theorem dX4_init_37 : decode cX4_init 37 = .ok (.aload_n 0, 1) := by decide +kernel
theorem dX4_init_38 : decode cX4_init 38 = .ok (.bipush 16, 2) := by decide +kernel
theorem dX4_init_40 : decode cX4_init 40 = .ok (.newarray .boolean, 2) := by decide +kernel
theorem dX4_init_42 : decode cX4_init 42 = .ok (.putfield 32, 3) := by decide +kernel
theorem dX4_init_45 : decode cX4_init 45 = .ok (.return_, 1) := by decide +kernel
theorem dX4_copyFrom_0 : decode cX4_copyFrom 0 = .ok (.aload_n 0, 1) := by decide +kernel
theorem dX4_copyFrom_1 : decode cX4_copyFrom 1 = .ok (.getfield 12, 3) := by decide +kernel
theorem dX4_copyFrom_4 : decode cX4_copyFrom 4 = .ok (.aload_n 1, 1) := by decide +kernel
theorem dX4_copyFrom_5 : decode cX4_copyFrom 5 = .ok (.getfield 12, 3) := by decide +kernel
theorem dX4_copyFrom_8 : decode cX4_copyFrom 8 = .ok (.invokevirtual 36, 3) := by decide +kernel
theorem dX4_copyFrom_11 : decode cX4_copyFrom 11 = .ok (.aload_n 0, 1) := by decide +kernel
theorem dX4_copyFrom_12 : decode cX4_copyFrom 12 = .ok (.getfield 21, 3) := by decide +kernel
theorem dX4_copyFrom_15 : decode cX4_copyFrom 15 = .ok (.aload_n 1, 1) := by decide +kernel
theorem dX4_copyFrom_16 : decode cX4_copyFrom 16 = .ok (.getfield 21, 3) := by decide +kernel
theorem dX4_copyFrom_19 : decode cX4_copyFrom 19 = .ok (.invokevirtual 40, 3) := by decide +kernel
theorem dX4_copyFrom_22 : decode cX4_copyFrom 22 = .ok (.aload_n 0, 1) := by decide +kernel
theorem dX4_copyFrom_23 : decode cX4_copyFrom 23 = .ok (.getfield 28, 3) := by decide +kernel
theorem dX4_copyFrom_26 : decode cX4_copyFrom 26 = .ok (.aload_n 1, 1) := by decide +kernel
theorem dX4_copyFrom_27 : decode cX4_copyFrom 27 = .ok (.getfield 28, 3) := by decide +kernel
theorem dX4_copyFrom_30 : decode cX4_copyFrom 30 = .ok (.invokevirtual 43, 3) := by decide +kernel
theorem dX4_copyFrom_33 : decode cX4_copyFrom 33 = .ok (.aload_n 0, 1) := by decide +kernel
theorem dX4_copyFrom_34 : decode cX4_copyFrom 34 = .ok (.aload_n 1, 1) := by decide +kernel
theorem dX4_copyFrom_35 : decode cX4_copyFrom 35 = .ok (.getfield 46, 3) := by decide +kernel
theorem dX4_copyFrom_38 : decode cX4_copyFrom 38 = .ok (.putfield 46, 3) := by decide +kernel
theorem dX4_copyFrom_41 : decode cX4_copyFrom 41 = .ok (.aload_n 0, 1) := by decide +kernel
theorem dX4_copyFrom_42 : decode cX4_copyFrom 42 = .ok (.aload_n 1, 1) := by decide +kernel
theorem dX4_copyFrom_43 : decode cX4_copyFrom 43 = .ok (.getfield 50, 3) := by decide +kernel
theorem dX4_copyFrom_46 : decode cX4_copyFrom 46 = .ok (.putfield 50, 3) := by decide +kernel
theorem dX4_copyFrom_49 : decode cX4_copyFrom 49 = .ok (.aload_n 0, 1) := by decide +kernel
theorem dX4_copyFrom_50 : decode cX4_copyFrom 50 = .ok (.aload_n 1, 1) := by decide +kernel
theorem dX4_copyFrom_51 : decode cX4_copyFrom 51 = .ok (.getfield 53, 3) := by decide +kernel
theorem dX4_copyFrom_54 : decode cX4_copyFrom 54 = .ok (.putfield 53, 3) := by decide +kernel
theorem dX4_copyFrom_57 : decode cX4_copyFrom 57 = .ok (.return_, 1) := by decide +kernel
theorem dX4_clear_0 : decode cX4_clear 0 = .ok (.aload_n 0, 1) := by decide +kernel
theorem dX4_clear_1 : decode cX4_clear 1 = .ok (.getfield 12, 3) := by decide +kernel
theorem dX4_clear_4 : decode cX4_clear 4 = .ok (.iconst 0, 1) := by decide +kernel
theorem dX4_clear_5 : decode cX4_clear 5 = .ok (.putfield 56, 3) := by decide +kernel
theorem dX4_clear_8 : decode cX4_clear 8 = .ok (.aload_n 0, 1) := by decide +kernel
theorem dX4_clear_9 : decode cX4_clear 9 = .ok (.getfield 12, 3) := by decide +kernel
theorem dX4_clear_12 : decode cX4_clear 12 = .ok (.iconst 0, 1) := by decide +kernel
theorem dX4_clear_13 : decode cX4_clear 13 = .ok (.putfield 59, 3) := by decide +kernel
theorem dX4_clear_16 : decode cX4_clear 16 = .ok (.aload_n 0, 1) := by decide +kernel
theorem dX4_clear_17 : decode cX4_clear 17 = .ok (.getfield 21, 3) := by decide +kernel
theorem dX4_clear_20 : decode cX4_clear 20 = .ok (.iconst 0, 1) := by decide +kernel
theorem dX4_clear_21 : decode cX4_clear 21 = .ok (.putfield 62, 3) := by decide +kernel
theorem dX4_clear_24 : decode cX4_clear 24 = .ok (.aload_n 0, 1) := by decide +kernel
theorem dX4_clear_25 : decode cX4_clear 25 = .ok (.getfield 21, 3) := by decide +kernel
theorem dX4_clear_28 : decode cX4_clear 28 = .ok (.iconst 0, 1) := by decide +kernel
theorem dX4_clear_29 : decode cX4_clear 29 = .ok (.putfield 65, 3) := by decide +kernel
theorem dX4_clear_32 : decode cX4_clear 32 = .ok (.aload_n 0, 1) := by decide +kernel
theorem dX4_clear_33 : decode cX4_clear 33 = .ok (.getfield 28, 3) := by decide +kernel
theorem dX4_clear_36 : decode cX4_clear 36 = .ok (.iconst 0, 1) := by decide +kernel
theorem dX4_clear_37 : decode cX4_clear 37 = .ok (.putfield 68, 3) := by decide +kernel
theorem dX4_clear_40 : decode cX4_clear 40 = .ok (.aload_n 0, 1) := by decide +kernel
theorem dX4_clear_41 : decode cX4_clear 41 = .ok (.iconst 0, 1) := by decide +kernel
theorem dX4_clear_42 : decode cX4_clear 42 = .ok (.putfield 46, 3) := by decide +kernel
theorem dX4_clear_45 : decode cX4_clear 45 = .ok (.aload_n 0, 1) := by decide +kernel
theorem dX4_clear_46 : decode cX4_clear 46 = .ok (.iconst 0, 1) := by decide +kernel
theorem dX4_clear_47 : decode cX4_clear 47 = .ok (.putfield 50, 3) := by decide +kernel
theorem dX4_clear_50 : decode cX4_clear 50 = .ok (.aload_n 0, 1) := by decide +kernel
theorem dX4_clear_51 : decode cX4_clear 51 = .ok (.iconst 0, 1) := by decide +kernel
theorem dX4_clear_52 : decode cX4_clear 52 = .ok (.putfield 53, 3) := by decide +kernel
theorem dX4_clear_55 : decode cX4_clear 55 = .ok (.return_, 1) := by decide +kernel
theorem dX4_hasKite_0 : decode cX4_hasKite 0 = .ok (.iload_n 1, 1) := by decide +kernel
theorem dX4_hasKite_1 : decode cX4_hasKite 1 = .ok (.ifCond .lt 18, 3) := by decide +kernel
theorem dX4_hasKite_4 : decode cX4_hasKite 4 = .ok (.iload_n 1, 1) := by decide +kernel
theorem dX4_hasKite_5 : decode cX4_hasKite 5 = .ok (.aload_n 0, 1) := by decide +kernel
theorem dX4_hasKite_6 : decode cX4_hasKite 6 = .ok (.getfield 21, 3) := by decide +kernel
theorem dX4_hasKite_9 : decode cX4_hasKite 9 = .ok (.getfield 62, 3) := by decide +kernel
theorem dX4_hasKite_12 : decode cX4_hasKite 12 = .ok (.if_icmp .ge 7, 3) := by decide +kernel
theorem dX4_hasKite_15 : decode cX4_hasKite 15 = .ok (.iconst 1, 1) := by decide +kernel
theorem dX4_hasKite_16 : decode cX4_hasKite 16 = .ok (.goto 4, 3) := by decide +kernel
theorem dX4_hasKite_19 : decode cX4_hasKite 19 = .ok (.iconst 0, 1) := by decide +kernel
theorem dX4_hasKite_20 : decode cX4_hasKite 20 = .ok (.ireturn, 1) := by decide +kernel
theorem dX4_enterKite_0 : decode cX4_enterKite 0 = .ok (.aload_n 0, 1) := by decide +kernel
theorem dX4_enterKite_1 : decode cX4_enterKite 1 = .ok (.getfield 21, 3) := by decide +kernel
theorem dX4_enterKite_4 : decode cX4_enterKite 4 = .ok (.getfield 62, 3) := by decide +kernel
theorem dX4_enterKite_7 : decode cX4_enterKite 7 = .ok (.istore 7, 2) := by decide +kernel
theorem dX4_enterKite_9 : decode cX4_enterKite 9 = .ok (.iload 7, 2) := by decide +kernel
theorem dX4_enterKite_11 : decode cX4_enterKite 11 = .ok (.bipush 16, 2) := by decide +kernel
theorem dX4_enterKite_13 : decode cX4_enterKite 13 = .ok (.if_icmp .lt 5, 3) := by decide +kernel
theorem dX4_enterKite_16 : decode cX4_enterKite 16 = .ok (.iconst (-1), 1) := by decide +kernel
theorem dX4_enterKite_17 : decode cX4_enterKite 17 = .ok (.ireturn, 1) := by decide +kernel
theorem dX4_enterKite_18 : decode cX4_enterKite 18 = .ok (.aload_n 0, 1) := by decide +kernel
theorem dX4_enterKite_19 : decode cX4_enterKite 19 = .ok (.getfield 21, 3) := by decide +kernel
theorem dX4_enterKite_22 : decode cX4_enterKite 22 = .ok (.getfield 69, 3) := by decide +kernel
theorem dX4_enterKite_25 : decode cX4_enterKite 25 = .ok (.iload 7, 2) := by decide +kernel
theorem dX4_enterKite_27 : decode cX4_enterKite 27 = .ok (.iload_n 1, 1) := by decide +kernel
theorem dX4_enterKite_28 : decode cX4_enterKite 28 = .ok (.iastore, 1) := by decide +kernel
theorem dX4_enterKite_29 : decode cX4_enterKite 29 = .ok (.aload_n 0, 1) := by decide +kernel
theorem dX4_enterKite_30 : decode cX4_enterKite 30 = .ok (.getfield 21, 3) := by decide +kernel
theorem dX4_enterKite_33 : decode cX4_enterKite 33 = .ok (.getfield 73, 3) := by decide +kernel
theorem dX4_enterKite_36 : decode cX4_enterKite 36 = .ok (.iload 7, 2) := by decide +kernel
theorem dX4_enterKite_38 : decode cX4_enterKite 38 = .ok (.iload_n 2, 1) := by decide +kernel
theorem dX4_enterKite_39 : decode cX4_enterKite 39 = .ok (.iastore, 1) := by decide +kernel
theorem dX4_enterKite_40 : decode cX4_enterKite 40 = .ok (.aload_n 0, 1) := by decide +kernel
theorem dX4_enterKite_41 : decode cX4_enterKite 41 = .ok (.getfield 21, 3) := by decide +kernel
theorem dX4_enterKite_44 : decode cX4_enterKite 44 = .ok (.getfield 76, 3) := by decide +kernel
theorem dX4_enterKite_47 : decode cX4_enterKite 47 = .ok (.iload 7, 2) := by decide +kernel
theorem dX4_enterKite_49 : decode cX4_enterKite 49 = .ok (.aload_n 0, 1) := by decide +kernel
theorem dX4_enterKite_50 : decode cX4_enterKite 50 = .ok (.getfield 12, 3) := by decide +kernel
theorem dX4_enterKite_53 : decode cX4_enterKite 53 = .ok (.iload_n 1, 1) := by decide +kernel
theorem dX4_enterKite_54 : decode cX4_enterKite 54 = .ok (.invokevirtual 79, 3) := by decide +kernel
theorem dX4_enterKite_57 : decode cX4_enterKite 57 = .ok (.iastore, 1) := by decide +kernel
theorem dX4_enterKite_58 : decode cX4_enterKite 58 = .ok (.aload_n 0, 1) := by decide +kernel
theorem dX4_enterKite_59 : decode cX4_enterKite 59 = .ok (.getfield 21, 3) := by decide +kernel
theorem dX4_enterKite_62 : decode cX4_enterKite 62 = .ok (.getfield 83, 3) := by decide +kernel
theorem dX4_enterKite_65 : decode cX4_enterKite 65 = .ok (.iload 7, 2) := by decide +kernel
theorem dX4_enterKite_67 : decode cX4_enterKite 67 = .ok (.iload_n 3, 1) := by decide +kernel
theorem dX4_enterKite_68 : decode cX4_enterKite 68 = .ok (.iastore, 1) := by decide +kernel
theorem dX4_enterKite_69 : decode cX4_enterKite 69 = .ok (.aload_n 0, 1) := by decide +kernel
theorem dX4_enterKite_70 : decode cX4_enterKite 70 = .ok (.getfield 21, 3) := by decide +kernel
theorem dX4_enterKite_73 : decode cX4_enterKite 73 = .ok (.getfield 86, 3) := by decide +kernel
theorem dX4_enterKite_76 : decode cX4_enterKite 76 = .ok (.iload 7, 2) := by decide +kernel
theorem dX4_enterKite_78 : decode cX4_enterKite 78 = .ok (.iload 4, 2) := by decide +kernel
theorem dX4_enterKite_80 : decode cX4_enterKite 80 = .ok (.iastore, 1) := by decide +kernel
theorem dX4_enterKite_81 : decode cX4_enterKite 81 = .ok (.aload_n 0, 1) := by decide +kernel
theorem dX4_enterKite_82 : decode cX4_enterKite 82 = .ok (.getfield 21, 3) := by decide +kernel
theorem dX4_enterKite_85 : decode cX4_enterKite 85 = .ok (.getfield 89, 3) := by decide +kernel
theorem dX4_enterKite_88 : decode cX4_enterKite 88 = .ok (.iload 7, 2) := by decide +kernel
theorem dX4_enterKite_90 : decode cX4_enterKite 90 = .ok (.iload 5, 2) := by decide +kernel
theorem dX4_enterKite_92 : decode cX4_enterKite 92 = .ok (.iastore, 1) := by decide +kernel
theorem dX4_enterKite_93 : decode cX4_enterKite 93 = .ok (.aload_n 0, 1) := by decide +kernel
theorem dX4_enterKite_94 : decode cX4_enterKite 94 = .ok (.getfield 21, 3) := by decide +kernel
theorem dX4_enterKite_97 : decode cX4_enterKite 97 = .ok (.getfield 92, 3) := by decide +kernel
theorem dX4_enterKite_100 : decode cX4_enterKite 100 = .ok (.iload 7, 2) := by decide +kernel
theorem dX4_enterKite_102 : decode cX4_enterKite 102 = .ok (.iload 6, 2) := by decide +kernel
theorem dX4_enterKite_104 : decode cX4_enterKite 104 = .ok (.iastore, 1) := by decide +kernel
theorem dX4_enterKite_105 : decode cX4_enterKite 105 = .ok (.aload_n 0, 1) := by decide +kernel
theorem dX4_enterKite_106 : decode cX4_enterKite 106 = .ok (.getfield 21, 3) := by decide +kernel
theorem dX4_enterKite_109 : decode cX4_enterKite 109 = .ok (.getfield 95, 3) := by decide +kernel
theorem dX4_enterKite_112 : decode cX4_enterKite 112 = .ok (.iload 7, 2) := by decide +kernel
theorem dX4_enterKite_114 : decode cX4_enterKite 114 = .ok (.iconst 0, 1) := by decide +kernel
theorem dX4_enterKite_115 : decode cX4_enterKite 115 = .ok (.iastore, 1) := by decide +kernel
theorem dX4_enterKite_116 : decode cX4_enterKite 116 = .ok (.aload_n 0, 1) := by decide +kernel
theorem dX4_enterKite_117 : decode cX4_enterKite 117 = .ok (.getfield 21, 3) := by decide +kernel
theorem dX4_enterKite_120 : decode cX4_enterKite 120 = .ok (.getfield 98, 3) := by decide +kernel
theorem dX4_enterKite_123 : decode cX4_enterKite 123 = .ok (.iload 7, 2) := by decide +kernel
theorem dX4_enterKite_125 : decode cX4_enterKite 125 = .ok (.iconst 0, 1) := by decide +kernel
theorem dX4_enterKite_126 : decode cX4_enterKite 126 = .ok (.iastore, 1) := by decide +kernel
theorem dX4_enterKite_127 : decode cX4_enterKite 127 = .ok (.aload_n 0, 1) := by decide +kernel
theorem dX4_enterKite_128 : decode cX4_enterKite 128 = .ok (.getfield 21, 3) := by decide +kernel
theorem dX4_enterKite_131 : decode cX4_enterKite 131 = .ok (.getfield 101, 3) := by decide +kernel
theorem dX4_enterKite_134 : decode cX4_enterKite 134 = .ok (.iload 7, 2) := by decide +kernel
theorem dX4_enterKite_136 : decode cX4_enterKite 136 = .ok (.iconst 0, 1) := by decide +kernel
theorem dX4_enterKite_137 : decode cX4_enterKite 137 = .ok (.iastore, 1) := by decide +kernel
theorem dX4_enterKite_138 : decode cX4_enterKite 138 = .ok (.aload_n 0, 1) := by decide +kernel
theorem dX4_enterKite_139 : decode cX4_enterKite 139 = .ok (.getfield 21, 3) := by decide +kernel
theorem dX4_enterKite_142 : decode cX4_enterKite 142 = .ok (.dup, 1) := by decide +kernel
theorem dX4_enterKite_143 : decode cX4_enterKite 143 = .ok (.getfield 62, 3) := by decide +kernel
theorem dX4_enterKite_146 : decode cX4_enterKite 146 = .ok (.iconst 1, 1) := by decide +kernel
theorem dX4_enterKite_147 : decode cX4_enterKite 147 = .ok (.iadd, 1) := by decide +kernel
theorem dX4_enterKite_148 : decode cX4_enterKite 148 = .ok (.putfield 62, 3) := by decide +kernel
theorem dX4_enterKite_151 : decode cX4_enterKite 151 = .ok (.aload_n 0, 1) := by decide +kernel
theorem dX4_enterKite_152 : decode cX4_enterKite 152 = .ok (.dup, 1) := by decide +kernel
theorem dX4_enterKite_153 : decode cX4_enterKite 153 = .ok (.getfield 53, 3) := by decide +kernel
theorem dX4_enterKite_156 : decode cX4_enterKite 156 = .ok (.iload 6, 2) := by decide +kernel
theorem dX4_enterKite_158 : decode cX4_enterKite 158 = .ok (.iadd, 1) := by decide +kernel
theorem dX4_enterKite_159 : decode cX4_enterKite 159 = .ok (.putfield 53, 3) := by decide +kernel
theorem dX4_enterKite_162 : decode cX4_enterKite 162 = .ok (.iload 7, 2) := by decide +kernel
theorem dX4_enterKite_164 : decode cX4_enterKite 164 = .ok (.ireturn, 1) := by decide +kernel
theorem dX4_windAt_0 : decode cX4_windAt 0 = .ok (.aload_n 0, 1) := by decide +kernel
theorem dX4_windAt_1 : decode cX4_windAt 1 = .ok (.getfield 12, 3) := by decide +kernel
theorem dX4_windAt_4 : decode cX4_windAt 4 = .ok (.aload_n 0, 1) := by decide +kernel
theorem dX4_windAt_5 : decode cX4_windAt 5 = .ok (.getfield 21, 3) := by decide +kernel
theorem dX4_windAt_8 : decode cX4_windAt 8 = .ok (.getfield 76, 3) := by decide +kernel
theorem dX4_windAt_11 : decode cX4_windAt 11 = .ok (.iload_n 1, 1) := by decide +kernel
theorem dX4_windAt_12 : decode cX4_windAt 12 = .ok (.iaload, 1) := by decide +kernel
theorem dX4_windAt_13 : decode cX4_windAt 13 = .ok (.iload_n 2, 1) := by decide +kernel
theorem dX4_windAt_14 : decode cX4_windAt 14 = .ok (.invokevirtual 104, 3) := by decide +kernel
theorem dX4_windAt_17 : decode cX4_windAt 17 = .ok (.ireturn, 1) := by decide +kernel
theorem dX4_reachIn_0 : decode cX4_reachIn 0 = .ok (.aload_n 0, 1) := by decide +kernel
theorem dX4_reachIn_1 : decode cX4_reachIn 1 = .ok (.getfield 12, 3) := by decide +kernel
theorem dX4_reachIn_4 : decode cX4_reachIn 4 = .ok (.getfield 108, 3) := by decide +kernel
theorem dX4_reachIn_7 : decode cX4_reachIn 7 = .ok (.iload_n 3, 1) := by decide +kernel
theorem dX4_reachIn_8 : decode cX4_reachIn 8 = .ok (.iaload, 1) := by decide +kernel
theorem dX4_reachIn_9 : decode cX4_reachIn 9 = .ok (.iload_n 2, 1) := by decide +kernel
theorem dX4_reachIn_10 : decode cX4_reachIn 10 = .ok (.isub, 1) := by decide +kernel
theorem dX4_reachIn_11 : decode cX4_reachIn 11 = .ok (.istore 4, 2) := by decide +kernel
theorem dX4_reachIn_13 : decode cX4_reachIn 13 = .ok (.iload 4, 2) := by decide +kernel
theorem dX4_reachIn_15 : decode cX4_reachIn 15 = .ok (.iconst 1, 1) := by decide +kernel
theorem dX4_reachIn_16 : decode cX4_reachIn 16 = .ok (.if_icmp .ge 5, 3) := by decide +kernel
theorem dX4_reachIn_19 : decode cX4_reachIn 19 = .ok (.iconst 0, 1) := by decide +kernel
theorem dX4_reachIn_20 : decode cX4_reachIn 20 = .ok (.ireturn, 1) := by decide +kernel
theorem dX4_reachIn_21 : decode cX4_reachIn 21 = .ok (.aload_n 0, 1) := by decide +kernel
theorem dX4_reachIn_22 : decode cX4_reachIn 22 = .ok (.getfield 21, 3) := by decide +kernel
theorem dX4_reachIn_25 : decode cX4_reachIn 25 = .ok (.getfield 83, 3) := by decide +kernel
theorem dX4_reachIn_28 : decode cX4_reachIn 28 = .ok (.iload_n 1, 1) := by decide +kernel
theorem dX4_reachIn_29 : decode cX4_reachIn 29 = .ok (.iaload, 1) := by decide +kernel
theorem dX4_reachIn_30 : decode cX4_reachIn 30 = .ok (.iload 4, 2) := by decide +kernel
theorem dX4_reachIn_32 : decode cX4_reachIn 32 = .ok (.iconst 5, 1) := by decide +kernel
theorem dX4_reachIn_33 : decode cX4_reachIn 33 = .ok (.invokestatic 111, 3) := by decide +kernel
theorem dX4_reachIn_36 : decode cX4_reachIn 36 = .ok (.imul, 1) := by decide +kernel
theorem dX4_reachIn_37 : decode cX4_reachIn 37 = .ok (.iconst 5, 1) := by decide +kernel
theorem dX4_reachIn_38 : decode cX4_reachIn 38 = .ok (.idiv, 1) := by decide +kernel
theorem dX4_reachIn_39 : decode cX4_reachIn 39 = .ok (.ireturn, 1) := by decide +kernel
theorem dX4_endXIn_0 : decode cX4_endXIn 0 = .ok (.aload_n 0, 1) := by decide +kernel
theorem dX4_endXIn_1 : decode cX4_endXIn 1 = .ok (.getfield 21, 3) := by decide +kernel
theorem dX4_endXIn_4 : decode cX4_endXIn 4 = .ok (.getfield 69, 3) := by decide +kernel
theorem dX4_endXIn_7 : decode cX4_endXIn 7 = .ok (.iload_n 1, 1) := by decide +kernel
theorem dX4_endXIn_8 : decode cX4_endXIn 8 = .ok (.iaload, 1) := by decide +kernel
theorem dX4_endXIn_9 : decode cX4_endXIn 9 = .ok (.iload_n 2, 1) := by decide +kernel
theorem dX4_endXIn_10 : decode cX4_endXIn 10 = .ok (.getstatic 116, 3) := by decide +kernel
theorem dX4_endXIn_13 : decode cX4_endXIn 13 = .ok (.aload_n 0, 1) := by decide +kernel
theorem dX4_endXIn_14 : decode cX4_endXIn 14 = .ok (.getfield 12, 3) := by decide +kernel
theorem dX4_endXIn_17 : decode cX4_endXIn 17 = .ok (.getfield 119, 3) := by decide +kernel
theorem dX4_endXIn_20 : decode cX4_endXIn 20 = .ok (.iload_n 3, 1) := by decide +kernel
theorem dX4_endXIn_21 : decode cX4_endXIn 21 = .ok (.iaload, 1) := by decide +kernel
theorem dX4_endXIn_22 : decode cX4_endXIn 22 = .ok (.iaload, 1) := by decide +kernel
theorem dX4_endXIn_23 : decode cX4_endXIn 23 = .ok (.imul, 1) := by decide +kernel
theorem dX4_endXIn_24 : decode cX4_endXIn 24 = .ok (.iadd, 1) := by decide +kernel
theorem dX4_endXIn_25 : decode cX4_endXIn 25 = .ok (.ireturn, 1) := by decide +kernel
theorem dX4_endYIn_0 : decode cX4_endYIn 0 = .ok (.aload_n 0, 1) := by decide +kernel
theorem dX4_endYIn_1 : decode cX4_endYIn 1 = .ok (.getfield 21, 3) := by decide +kernel
theorem dX4_endYIn_4 : decode cX4_endYIn 4 = .ok (.getfield 73, 3) := by decide +kernel
theorem dX4_endYIn_7 : decode cX4_endYIn 7 = .ok (.iload_n 1, 1) := by decide +kernel
theorem dX4_endYIn_8 : decode cX4_endYIn 8 = .ok (.iaload, 1) := by decide +kernel
theorem dX4_endYIn_9 : decode cX4_endYIn 9 = .ok (.iload_n 2, 1) := by decide +kernel
theorem dX4_endYIn_10 : decode cX4_endYIn 10 = .ok (.getstatic 122, 3) := by decide +kernel
theorem dX4_endYIn_13 : decode cX4_endYIn 13 = .ok (.aload_n 0, 1) := by decide +kernel
theorem dX4_endYIn_14 : decode cX4_endYIn 14 = .ok (.getfield 12, 3) := by decide +kernel
theorem dX4_endYIn_17 : decode cX4_endYIn 17 = .ok (.getfield 119, 3) := by decide +kernel
theorem dX4_endYIn_20 : decode cX4_endYIn 20 = .ok (.iload_n 3, 1) := by decide +kernel
theorem dX4_endYIn_21 : decode cX4_endYIn 21 = .ok (.iaload, 1) := by decide +kernel
theorem dX4_endYIn_22 : decode cX4_endYIn 22 = .ok (.iaload, 1) := by decide +kernel
theorem dX4_endYIn_23 : decode cX4_endYIn 23 = .ok (.imul, 1) := by decide +kernel
theorem dX4_endYIn_24 : decode cX4_endYIn 24 = .ok (.iadd, 1) := by decide +kernel
theorem dX4_endYIn_25 : decode cX4_endYIn 25 = .ok (.ireturn, 1) := by decide +kernel
theorem dX4_fliesIn_0 : decode cX4_fliesIn 0 = .ok (.iload_n 2, 1) := by decide +kernel
theorem dX4_fliesIn_1 : decode cX4_fliesIn 1 = .ok (.iconst 1, 1) := by decide +kernel
theorem dX4_fliesIn_2 : decode cX4_fliesIn 2 = .ok (.if_icmp .lt 31, 3) := by decide +kernel
theorem dX4_fliesIn_5 : decode cX4_fliesIn 5 = .ok (.aload_n 0, 1) := by decide +kernel
theorem dX4_fliesIn_6 : decode cX4_fliesIn 6 = .ok (.getfield 12, 3) := by decide +kernel
theorem dX4_fliesIn_9 : decode cX4_fliesIn 9 = .ok (.aload_n 0, 1) := by decide +kernel
theorem dX4_fliesIn_10 : decode cX4_fliesIn 10 = .ok (.iload_n 1, 1) := by decide +kernel
theorem dX4_fliesIn_11 : decode cX4_fliesIn 11 = .ok (.iload_n 2, 1) := by decide +kernel
theorem dX4_fliesIn_12 : decode cX4_fliesIn 12 = .ok (.iload_n 3, 1) := by decide +kernel
theorem dX4_fliesIn_13 : decode cX4_fliesIn 13 = .ok (.invokevirtual 125, 3) := by decide +kernel
theorem dX4_fliesIn_16 : decode cX4_fliesIn 16 = .ok (.aload_n 0, 1) := by decide +kernel
theorem dX4_fliesIn_17 : decode cX4_fliesIn 17 = .ok (.iload_n 1, 1) := by decide +kernel
theorem dX4_fliesIn_18 : decode cX4_fliesIn 18 = .ok (.iload_n 2, 1) := by decide +kernel
theorem dX4_fliesIn_19 : decode cX4_fliesIn 19 = .ok (.iload_n 3, 1) := by decide +kernel
theorem dX4_fliesIn_20 : decode cX4_fliesIn 20 = .ok (.invokevirtual 129, 3) := by decide +kernel
theorem dX4_fliesIn_23 : decode cX4_fliesIn 23 = .ok (.invokevirtual 132, 3) := by decide +kernel
theorem dX4_fliesIn_26 : decode cX4_fliesIn 26 = .ok (.ifCond .eq 7, 3) := by decide +kernel
theorem dX4_fliesIn_29 : decode cX4_fliesIn 29 = .ok (.iconst 1, 1) := by decide +kernel
theorem dX4_fliesIn_30 : decode cX4_fliesIn 30 = .ok (.goto 4, 3) := by decide +kernel
theorem dX4_fliesIn_33 : decode cX4_fliesIn 33 = .ok (.iconst 0, 1) := by decide +kernel
theorem dX4_fliesIn_34 : decode cX4_fliesIn 34 = .ok (.ireturn, 1) := by decide +kernel
theorem dX4_reachAt_0 : decode cX4_reachAt 0 = .ok (.aload_n 0, 1) := by decide +kernel
theorem dX4_reachAt_1 : decode cX4_reachAt 1 = .ok (.iload_n 1, 1) := by decide +kernel
theorem dX4_reachAt_2 : decode cX4_reachAt 2 = .ok (.aload_n 0, 1) := by decide +kernel
theorem dX4_reachAt_3 : decode cX4_reachAt 3 = .ok (.getfield 21, 3) := by decide +kernel
theorem dX4_reachAt_6 : decode cX4_reachAt 6 = .ok (.getfield 89, 3) := by decide +kernel
theorem dX4_reachAt_9 : decode cX4_reachAt 9 = .ok (.iload_n 1, 1) := by decide +kernel
theorem dX4_reachAt_10 : decode cX4_reachAt 10 = .ok (.iaload, 1) := by decide +kernel
theorem dX4_reachAt_11 : decode cX4_reachAt 11 = .ok (.aload_n 0, 1) := by decide +kernel
theorem dX4_reachAt_12 : decode cX4_reachAt 12 = .ok (.iload_n 1, 1) := by decide +kernel
theorem dX4_reachAt_13 : decode cX4_reachAt 13 = .ok (.iload_n 2, 1) := by decide +kernel
theorem dX4_reachAt_14 : decode cX4_reachAt 14 = .ok (.invokevirtual 136, 3) := by decide +kernel
theorem dX4_reachAt_17 : decode cX4_reachAt 17 = .ok (.invokevirtual 139, 3) := by decide +kernel
theorem dX4_reachAt_20 : decode cX4_reachAt 20 = .ok (.ireturn, 1) := by decide +kernel
theorem dX4_fliesAt_0 : decode cX4_fliesAt 0 = .ok (.aload_n 0, 1) := by decide +kernel
theorem dX4_fliesAt_1 : decode cX4_fliesAt 1 = .ok (.iload_n 1, 1) := by decide +kernel
theorem dX4_fliesAt_2 : decode cX4_fliesAt 2 = .ok (.iload_n 2, 1) := by decide +kernel
theorem dX4_fliesAt_3 : decode cX4_fliesAt 3 = .ok (.invokevirtual 136, 3) := by decide +kernel
theorem dX4_fliesAt_6 : decode cX4_fliesAt 6 = .ok (.istore_n 3, 1) := by decide +kernel
theorem dX4_fliesAt_7 : decode cX4_fliesAt 7 = .ok (.aload_n 0, 1) := by decide +kernel
theorem dX4_fliesAt_8 : decode cX4_fliesAt 8 = .ok (.iload_n 1, 1) := by decide +kernel
theorem dX4_fliesAt_9 : decode cX4_fliesAt 9 = .ok (.aload_n 0, 1) := by decide +kernel
theorem dX4_fliesAt_10 : decode cX4_fliesAt 10 = .ok (.iload_n 1, 1) := by decide +kernel
theorem dX4_fliesAt_11 : decode cX4_fliesAt 11 = .ok (.aload_n 0, 1) := by decide +kernel
theorem dX4_fliesAt_12 : decode cX4_fliesAt 12 = .ok (.getfield 21, 3) := by decide +kernel
theorem dX4_fliesAt_15 : decode cX4_fliesAt 15 = .ok (.getfield 89, 3) := by decide +kernel
theorem dX4_fliesAt_18 : decode cX4_fliesAt 18 = .ok (.iload_n 1, 1) := by decide +kernel
theorem dX4_fliesAt_19 : decode cX4_fliesAt 19 = .ok (.iaload, 1) := by decide +kernel
theorem dX4_fliesAt_20 : decode cX4_fliesAt 20 = .ok (.iload_n 3, 1) := by decide +kernel
theorem dX4_fliesAt_21 : decode cX4_fliesAt 21 = .ok (.invokevirtual 139, 3) := by decide +kernel
theorem dX4_fliesAt_24 : decode cX4_fliesAt 24 = .ok (.iload_n 3, 1) := by decide +kernel
theorem dX4_fliesAt_25 : decode cX4_fliesAt 25 = .ok (.invokevirtual 142, 3) := by decide +kernel
theorem dX4_fliesAt_28 : decode cX4_fliesAt 28 = .ok (.ireturn, 1) := by decide +kernel
theorem dX4_stringsCross_0 : decode cX4_stringsCross 0 = .ok (.aload_n 0, 1) := by decide +kernel
theorem dX4_stringsCross_1 : decode cX4_stringsCross 1 = .ok (.iload_n 1, 1) := by decide +kernel
theorem dX4_stringsCross_2 : decode cX4_stringsCross 2 = .ok (.iload_n 3, 1) := by decide +kernel
theorem dX4_stringsCross_3 : decode cX4_stringsCross 3 = .ok (.invokevirtual 136, 3) := by decide +kernel
theorem dX4_stringsCross_6 : decode cX4_stringsCross 6 = .ok (.istore 4, 2) := by decide +kernel
theorem dX4_stringsCross_8 : decode cX4_stringsCross 8 = .ok (.aload_n 0, 1) := by decide +kernel
theorem dX4_stringsCross_9 : decode cX4_stringsCross 9 = .ok (.iload_n 1, 1) := by decide +kernel
theorem dX4_stringsCross_10 : decode cX4_stringsCross 10 = .ok (.aload_n 0, 1) := by decide +kernel
theorem dX4_stringsCross_11 : decode cX4_stringsCross 11 = .ok (.getfield 21, 3) := by decide +kernel
theorem dX4_stringsCross_14 : decode cX4_stringsCross 14 = .ok (.getfield 89, 3) := by decide +kernel
theorem dX4_stringsCross_17 : decode cX4_stringsCross 17 = .ok (.iload_n 1, 1) := by decide +kernel
theorem dX4_stringsCross_18 : decode cX4_stringsCross 18 = .ok (.iaload, 1) := by decide +kernel
theorem dX4_stringsCross_19 : decode cX4_stringsCross 19 = .ok (.iload 4, 2) := by decide +kernel
theorem dX4_stringsCross_21 : decode cX4_stringsCross 21 = .ok (.invokevirtual 139, 3) := by decide +kernel
theorem dX4_stringsCross_24 : decode cX4_stringsCross 24 = .ok (.istore 5, 2) := by decide +kernel
theorem dX4_stringsCross_26 : decode cX4_stringsCross 26 = .ok (.aload_n 0, 1) := by decide +kernel
theorem dX4_stringsCross_27 : decode cX4_stringsCross 27 = .ok (.getfield 21, 3) := by decide +kernel
theorem dX4_stringsCross_30 : decode cX4_stringsCross 30 = .ok (.getfield 69, 3) := by decide +kernel
theorem dX4_stringsCross_33 : decode cX4_stringsCross 33 = .ok (.iload_n 1, 1) := by decide +kernel
theorem dX4_stringsCross_34 : decode cX4_stringsCross 34 = .ok (.iaload, 1) := by decide +kernel
theorem dX4_stringsCross_35 : decode cX4_stringsCross 35 = .ok (.istore 6, 2) := by decide +kernel
theorem dX4_stringsCross_37 : decode cX4_stringsCross 37 = .ok (.aload_n 0, 1) := by decide +kernel
theorem dX4_stringsCross_38 : decode cX4_stringsCross 38 = .ok (.getfield 21, 3) := by decide +kernel
theorem dX4_stringsCross_41 : decode cX4_stringsCross 41 = .ok (.getfield 73, 3) := by decide +kernel
theorem dX4_stringsCross_44 : decode cX4_stringsCross 44 = .ok (.iload_n 1, 1) := by decide +kernel
theorem dX4_stringsCross_45 : decode cX4_stringsCross 45 = .ok (.iaload, 1) := by decide +kernel
theorem dX4_stringsCross_46 : decode cX4_stringsCross 46 = .ok (.istore 7, 2) := by decide +kernel
theorem dX4_stringsCross_48 : decode cX4_stringsCross 48 = .ok (.aload_n 0, 1) := by decide +kernel
theorem dX4_stringsCross_49 : decode cX4_stringsCross 49 = .ok (.iload_n 1, 1) := by decide +kernel
theorem dX4_stringsCross_50 : decode cX4_stringsCross 50 = .ok (.iload 5, 2) := by decide +kernel
theorem dX4_stringsCross_52 : decode cX4_stringsCross 52 = .ok (.iload 4, 2) := by decide +kernel
theorem dX4_stringsCross_54 : decode cX4_stringsCross 54 = .ok (.invokevirtual 125, 3) := by decide +kernel
theorem dX4_stringsCross_57 : decode cX4_stringsCross 57 = .ok (.istore 8, 2) := by decide +kernel
theorem dX4_stringsCross_59 : decode cX4_stringsCross 59 = .ok (.aload_n 0, 1) := by decide +kernel
theorem dX4_stringsCross_60 : decode cX4_stringsCross 60 = .ok (.iload_n 1, 1) := by decide +kernel
theorem dX4_stringsCross_61 : decode cX4_stringsCross 61 = .ok (.iload 5, 2) := by decide +kernel
theorem dX4_stringsCross_63 : decode cX4_stringsCross 63 = .ok (.iload 4, 2) := by decide +kernel
theorem dX4_stringsCross_65 : decode cX4_stringsCross 65 = .ok (.invokevirtual 129, 3) := by decide +kernel
theorem dX4_stringsCross_68 : decode cX4_stringsCross 68 = .ok (.istore 9, 2) := by decide +kernel
theorem dX4_stringsCross_70 : decode cX4_stringsCross 70 = .ok (.aload_n 0, 1) := by decide +kernel
theorem dX4_stringsCross_71 : decode cX4_stringsCross 71 = .ok (.iload_n 2, 1) := by decide +kernel
theorem dX4_stringsCross_72 : decode cX4_stringsCross 72 = .ok (.iload_n 3, 1) := by decide +kernel
theorem dX4_stringsCross_73 : decode cX4_stringsCross 73 = .ok (.invokevirtual 136, 3) := by decide +kernel
theorem dX4_stringsCross_76 : decode cX4_stringsCross 76 = .ok (.istore 10, 2) := by decide +kernel
theorem dX4_stringsCross_78 : decode cX4_stringsCross 78 = .ok (.aload_n 0, 1) := by decide +kernel
theorem dX4_stringsCross_79 : decode cX4_stringsCross 79 = .ok (.iload_n 2, 1) := by decide +kernel
theorem dX4_stringsCross_80 : decode cX4_stringsCross 80 = .ok (.aload_n 0, 1) := by decide +kernel
theorem dX4_stringsCross_81 : decode cX4_stringsCross 81 = .ok (.getfield 21, 3) := by decide +kernel
theorem dX4_stringsCross_84 : decode cX4_stringsCross 84 = .ok (.getfield 89, 3) := by decide +kernel
theorem dX4_stringsCross_87 : decode cX4_stringsCross 87 = .ok (.iload_n 2, 1) := by decide +kernel
theorem dX4_stringsCross_88 : decode cX4_stringsCross 88 = .ok (.iaload, 1) := by decide +kernel
theorem dX4_stringsCross_89 : decode cX4_stringsCross 89 = .ok (.iload 10, 2) := by decide +kernel
theorem dX4_stringsCross_91 : decode cX4_stringsCross 91 = .ok (.invokevirtual 139, 3) := by decide +kernel
theorem dX4_stringsCross_94 : decode cX4_stringsCross 94 = .ok (.istore 11, 2) := by decide +kernel
theorem dX4_stringsCross_96 : decode cX4_stringsCross 96 = .ok (.aload_n 0, 1) := by decide +kernel
theorem dX4_stringsCross_97 : decode cX4_stringsCross 97 = .ok (.getfield 21, 3) := by decide +kernel
theorem dX4_stringsCross_100 : decode cX4_stringsCross 100 = .ok (.getfield 69, 3) := by decide +kernel
theorem dX4_stringsCross_103 : decode cX4_stringsCross 103 = .ok (.iload_n 2, 1) := by decide +kernel
theorem dX4_stringsCross_104 : decode cX4_stringsCross 104 = .ok (.iaload, 1) := by decide +kernel
theorem dX4_stringsCross_105 : decode cX4_stringsCross 105 = .ok (.istore 12, 2) := by decide +kernel
theorem dX4_stringsCross_107 : decode cX4_stringsCross 107 = .ok (.aload_n 0, 1) := by decide +kernel
theorem dX4_stringsCross_108 : decode cX4_stringsCross 108 = .ok (.getfield 21, 3) := by decide +kernel
theorem dX4_stringsCross_111 : decode cX4_stringsCross 111 = .ok (.getfield 73, 3) := by decide +kernel
theorem dX4_stringsCross_114 : decode cX4_stringsCross 114 = .ok (.iload_n 2, 1) := by decide +kernel
theorem dX4_stringsCross_115 : decode cX4_stringsCross 115 = .ok (.iaload, 1) := by decide +kernel
theorem dX4_stringsCross_116 : decode cX4_stringsCross 116 = .ok (.istore 13, 2) := by decide +kernel
theorem dX4_stringsCross_118 : decode cX4_stringsCross 118 = .ok (.aload_n 0, 1) := by decide +kernel
theorem dX4_stringsCross_119 : decode cX4_stringsCross 119 = .ok (.iload_n 2, 1) := by decide +kernel
theorem dX4_stringsCross_120 : decode cX4_stringsCross 120 = .ok (.iload 11, 2) := by decide +kernel
theorem dX4_stringsCross_122 : decode cX4_stringsCross 122 = .ok (.iload 10, 2) := by decide +kernel
theorem dX4_stringsCross_124 : decode cX4_stringsCross 124 = .ok (.invokevirtual 125, 3) := by decide +kernel
theorem dX4_stringsCross_127 : decode cX4_stringsCross 127 = .ok (.istore 14, 2) := by decide +kernel
theorem dX4_stringsCross_129 : decode cX4_stringsCross 129 = .ok (.aload_n 0, 1) := by decide +kernel
theorem dX4_stringsCross_130 : decode cX4_stringsCross 130 = .ok (.iload_n 2, 1) := by decide +kernel
theorem dX4_stringsCross_131 : decode cX4_stringsCross 131 = .ok (.iload 11, 2) := by decide +kernel
theorem dX4_stringsCross_133 : decode cX4_stringsCross 133 = .ok (.iload 10, 2) := by decide +kernel
theorem dX4_stringsCross_135 : decode cX4_stringsCross 135 = .ok (.invokevirtual 129, 3) := by decide +kernel
theorem dX4_stringsCross_138 : decode cX4_stringsCross 138 = .ok (.istore 15, 2) := by decide +kernel
theorem dX4_stringsCross_140 : decode cX4_stringsCross 140 = .ok (.iload 6, 2) := by decide +kernel
theorem dX4_stringsCross_142 : decode cX4_stringsCross 142 = .ok (.iload 8, 2) := by decide +kernel
theorem dX4_stringsCross_144 : decode cX4_stringsCross 144 = .ok (.iload 12, 2) := by decide +kernel
theorem dX4_stringsCross_146 : decode cX4_stringsCross 146 = .ok (.iload 14, 2) := by decide +kernel
theorem dX4_stringsCross_148 : decode cX4_stringsCross 148 = .ok (.invokestatic 146, 3) := by decide +kernel
theorem dX4_stringsCross_151 : decode cX4_stringsCross 151 = .ok (.ifCond .eq 17, 3) := by decide +kernel
theorem dX4_stringsCross_154 : decode cX4_stringsCross 154 = .ok (.iload 7, 2) := by decide +kernel
theorem dX4_stringsCross_156 : decode cX4_stringsCross 156 = .ok (.iload 9, 2) := by decide +kernel
theorem dX4_stringsCross_158 : decode cX4_stringsCross 158 = .ok (.iload 13, 2) := by decide +kernel
theorem dX4_stringsCross_160 : decode cX4_stringsCross 160 = .ok (.iload 15, 2) := by decide +kernel
theorem dX4_stringsCross_162 : decode cX4_stringsCross 162 = .ok (.invokestatic 146, 3) := by decide +kernel
theorem dX4_stringsCross_165 : decode cX4_stringsCross 165 = .ok (.ifCond .ne 5, 3) := by decide +kernel
theorem dX4_stringsCross_168 : decode cX4_stringsCross 168 = .ok (.iconst 0, 1) := by decide +kernel
theorem dX4_stringsCross_169 : decode cX4_stringsCross 169 = .ok (.ireturn, 1) := by decide +kernel
theorem dX4_stringsCross_170 : decode cX4_stringsCross 170 = .ok (.iload 6, 2) := by decide +kernel
theorem dX4_stringsCross_172 : decode cX4_stringsCross 172 = .ok (.iload 7, 2) := by decide +kernel
theorem dX4_stringsCross_174 : decode cX4_stringsCross 174 = .ok (.iload 8, 2) := by decide +kernel
theorem dX4_stringsCross_176 : decode cX4_stringsCross 176 = .ok (.iload 9, 2) := by decide +kernel
theorem dX4_stringsCross_178 : decode cX4_stringsCross 178 = .ok (.iload 12, 2) := by decide +kernel
theorem dX4_stringsCross_180 : decode cX4_stringsCross 180 = .ok (.iload 13, 2) := by decide +kernel
theorem dX4_stringsCross_182 : decode cX4_stringsCross 182 = .ok (.invokestatic 150, 3) := by decide +kernel
theorem dX4_stringsCross_185 : decode cX4_stringsCross 185 = .ok (.iload 6, 2) := by decide +kernel
theorem dX4_stringsCross_187 : decode cX4_stringsCross 187 = .ok (.iload 7, 2) := by decide +kernel
theorem dX4_stringsCross_189 : decode cX4_stringsCross 189 = .ok (.iload 8, 2) := by decide +kernel
theorem dX4_stringsCross_191 : decode cX4_stringsCross 191 = .ok (.iload 9, 2) := by decide +kernel
theorem dX4_stringsCross_193 : decode cX4_stringsCross 193 = .ok (.iload 14, 2) := by decide +kernel
theorem dX4_stringsCross_195 : decode cX4_stringsCross 195 = .ok (.iload 15, 2) := by decide +kernel
theorem dX4_stringsCross_197 : decode cX4_stringsCross 197 = .ok (.invokestatic 150, 3) := by decide +kernel
theorem dX4_stringsCross_200 : decode cX4_stringsCross 200 = .ok (.invokestatic 154, 3) := by decide +kernel
theorem dX4_stringsCross_203 : decode cX4_stringsCross 203 = .ok (.ifCond .ne 43, 3) := by decide +kernel
theorem dX4_stringsCross_206 : decode cX4_stringsCross 206 = .ok (.iload 12, 2) := by decide +kernel
theorem dX4_stringsCross_208 : decode cX4_stringsCross 208 = .ok (.iload 13, 2) := by decide +kernel
theorem dX4_stringsCross_210 : decode cX4_stringsCross 210 = .ok (.iload 14, 2) := by decide +kernel
theorem dX4_stringsCross_212 : decode cX4_stringsCross 212 = .ok (.iload 15, 2) := by decide +kernel
theorem dX4_stringsCross_214 : decode cX4_stringsCross 214 = .ok (.iload 6, 2) := by decide +kernel
theorem dX4_stringsCross_216 : decode cX4_stringsCross 216 = .ok (.iload 7, 2) := by decide +kernel
theorem dX4_stringsCross_218 : decode cX4_stringsCross 218 = .ok (.invokestatic 150, 3) := by decide +kernel
theorem dX4_stringsCross_221 : decode cX4_stringsCross 221 = .ok (.iload 12, 2) := by decide +kernel
theorem dX4_stringsCross_223 : decode cX4_stringsCross 223 = .ok (.iload 13, 2) := by decide +kernel
theorem dX4_stringsCross_225 : decode cX4_stringsCross 225 = .ok (.iload 14, 2) := by decide +kernel
theorem dX4_stringsCross_227 : decode cX4_stringsCross 227 = .ok (.iload 15, 2) := by decide +kernel
theorem dX4_stringsCross_229 : decode cX4_stringsCross 229 = .ok (.iload 8, 2) := by decide +kernel
theorem dX4_stringsCross_231 : decode cX4_stringsCross 231 = .ok (.iload 9, 2) := by decide +kernel
theorem dX4_stringsCross_233 : decode cX4_stringsCross 233 = .ok (.invokestatic 150, 3) := by decide +kernel
theorem dX4_stringsCross_236 : decode cX4_stringsCross 236 = .ok (.invokestatic 154, 3) := by decide +kernel
theorem dX4_stringsCross_239 : decode cX4_stringsCross 239 = .ok (.ifCond .ne 7, 3) := by decide +kernel
theorem dX4_stringsCross_242 : decode cX4_stringsCross 242 = .ok (.iconst 1, 1) := by decide +kernel
theorem dX4_stringsCross_243 : decode cX4_stringsCross 243 = .ok (.goto 4, 3) := by decide +kernel
theorem dX4_stringsCross_246 : decode cX4_stringsCross 246 = .ok (.iconst 0, 1) := by decide +kernel
theorem dX4_stringsCross_247 : decode cX4_stringsCross 247 = .ok (.ireturn, 1) := by decide +kernel
theorem dX4_rangesMeet_0 : decode cX4_rangesMeet 0 = .ok (.iload_n 0, 1) := by decide +kernel
theorem dX4_rangesMeet_1 : decode cX4_rangesMeet 1 = .ok (.iload_n 1, 1) := by decide +kernel
theorem dX4_rangesMeet_2 : decode cX4_rangesMeet 2 = .ok (.invokestatic 111, 3) := by decide +kernel
theorem dX4_rangesMeet_5 : decode cX4_rangesMeet 5 = .ok (.iload_n 2, 1) := by decide +kernel
theorem dX4_rangesMeet_6 : decode cX4_rangesMeet 6 = .ok (.iload_n 3, 1) := by decide +kernel
theorem dX4_rangesMeet_7 : decode cX4_rangesMeet 7 = .ok (.invokestatic 157, 3) := by decide +kernel
theorem dX4_rangesMeet_10 : decode cX4_rangesMeet 10 = .ok (.if_icmp .gt 20, 3) := by decide +kernel
theorem dX4_rangesMeet_13 : decode cX4_rangesMeet 13 = .ok (.iload_n 2, 1) := by decide +kernel
theorem dX4_rangesMeet_14 : decode cX4_rangesMeet 14 = .ok (.iload_n 3, 1) := by decide +kernel
theorem dX4_rangesMeet_15 : decode cX4_rangesMeet 15 = .ok (.invokestatic 111, 3) := by decide +kernel
theorem dX4_rangesMeet_18 : decode cX4_rangesMeet 18 = .ok (.iload_n 0, 1) := by decide +kernel
theorem dX4_rangesMeet_19 : decode cX4_rangesMeet 19 = .ok (.iload_n 1, 1) := by decide +kernel
theorem dX4_rangesMeet_20 : decode cX4_rangesMeet 20 = .ok (.invokestatic 157, 3) := by decide +kernel
theorem dX4_rangesMeet_23 : decode cX4_rangesMeet 23 = .ok (.if_icmp .gt 7, 3) := by decide +kernel
theorem dX4_rangesMeet_26 : decode cX4_rangesMeet 26 = .ok (.iconst 1, 1) := by decide +kernel
theorem dX4_rangesMeet_27 : decode cX4_rangesMeet 27 = .ok (.goto 4, 3) := by decide +kernel
theorem dX4_rangesMeet_30 : decode cX4_rangesMeet 30 = .ok (.iconst 0, 1) := by decide +kernel
theorem dX4_rangesMeet_31 : decode cX4_rangesMeet 31 = .ok (.ireturn, 1) := by decide +kernel
theorem dX4_sideOf_0 : decode cX4_sideOf 0 = .ok (.iload_n 2, 1) := by decide +kernel
theorem dX4_sideOf_1 : decode cX4_sideOf 1 = .ok (.iload_n 0, 1) := by decide +kernel
theorem dX4_sideOf_2 : decode cX4_sideOf 2 = .ok (.isub, 1) := by decide +kernel
theorem dX4_sideOf_3 : decode cX4_sideOf 3 = .ok (.iload 5, 2) := by decide +kernel
theorem dX4_sideOf_5 : decode cX4_sideOf 5 = .ok (.iload_n 1, 1) := by decide +kernel
theorem dX4_sideOf_6 : decode cX4_sideOf 6 = .ok (.isub, 1) := by decide +kernel
theorem dX4_sideOf_7 : decode cX4_sideOf 7 = .ok (.imul, 1) := by decide +kernel
theorem dX4_sideOf_8 : decode cX4_sideOf 8 = .ok (.iload_n 3, 1) := by decide +kernel
theorem dX4_sideOf_9 : decode cX4_sideOf 9 = .ok (.iload_n 1, 1) := by decide +kernel
theorem dX4_sideOf_10 : decode cX4_sideOf 10 = .ok (.isub, 1) := by decide +kernel
theorem dX4_sideOf_11 : decode cX4_sideOf 11 = .ok (.iload 4, 2) := by decide +kernel
theorem dX4_sideOf_13 : decode cX4_sideOf 13 = .ok (.iload_n 0, 1) := by decide +kernel
theorem dX4_sideOf_14 : decode cX4_sideOf 14 = .ok (.isub, 1) := by decide +kernel
theorem dX4_sideOf_15 : decode cX4_sideOf 15 = .ok (.imul, 1) := by decide +kernel
theorem dX4_sideOf_16 : decode cX4_sideOf 16 = .ok (.isub, 1) := by decide +kernel
theorem dX4_sideOf_17 : decode cX4_sideOf 17 = .ok (.ireturn, 1) := by decide +kernel
theorem dX4_onOneSide_0 : decode cX4_onOneSide 0 = .ok (.iload_n 0, 1) := by decide +kernel
theorem dX4_onOneSide_1 : decode cX4_onOneSide 1 = .ok (.ifCond .le 7, 3) := by decide +kernel
theorem dX4_onOneSide_4 : decode cX4_onOneSide 4 = .ok (.iload_n 1, 1) := by decide +kernel
theorem dX4_onOneSide_5 : decode cX4_onOneSide 5 = .ok (.ifCond .gt 11, 3) := by decide +kernel
theorem dX4_onOneSide_8 : decode cX4_onOneSide 8 = .ok (.iload_n 0, 1) := by decide +kernel
theorem dX4_onOneSide_9 : decode cX4_onOneSide 9 = .ok (.ifCond .ge 11, 3) := by decide +kernel
theorem dX4_onOneSide_12 : decode cX4_onOneSide 12 = .ok (.iload_n 1, 1) := by decide +kernel
theorem dX4_onOneSide_13 : decode cX4_onOneSide 13 = .ok (.ifCond .ge 7, 3) := by decide +kernel
theorem dX4_onOneSide_16 : decode cX4_onOneSide 16 = .ok (.iconst 1, 1) := by decide +kernel
theorem dX4_onOneSide_17 : decode cX4_onOneSide 17 = .ok (.goto 4, 3) := by decide +kernel
theorem dX4_onOneSide_20 : decode cX4_onOneSide 20 = .ok (.iconst 0, 1) := by decide +kernel
theorem dX4_onOneSide_21 : decode cX4_onOneSide 21 = .ok (.ireturn, 1) := by decide +kernel
theorem dX4_countCovering_0 : decode cX4_countCovering 0 = .ok (.iconst 0, 1) := by decide +kernel
theorem dX4_countCovering_1 : decode cX4_countCovering 1 = .ok (.istore_n 3, 1) := by decide +kernel
theorem dX4_countCovering_2 : decode cX4_countCovering 2 = .ok (.iconst 0, 1) := by decide +kernel
theorem dX4_countCovering_3 : decode cX4_countCovering 3 = .ok (.istore 4, 2) := by decide +kernel
theorem dX4_countCovering_5 : decode cX4_countCovering 5 = .ok (.iload 4, 2) := by decide +kernel
theorem dX4_countCovering_7 : decode cX4_countCovering 7 = .ok (.aload_n 0, 1) := by decide +kernel
theorem dX4_countCovering_8 : decode cX4_countCovering 8 = .ok (.getfield 28, 3) := by decide +kernel
theorem dX4_countCovering_11 : decode cX4_countCovering 11 = .ok (.getfield 68, 3) := by decide +kernel
theorem dX4_countCovering_14 : decode cX4_countCovering 14 = .ok (.if_icmp .ge 47, 3) := by decide +kernel
theorem dX4_countCovering_17 : decode cX4_countCovering 17 = .ok (.aload_n 0, 1) := by decide +kernel
theorem dX4_countCovering_18 : decode cX4_countCovering 18 = .ok (.getfield 21, 3) := by decide +kernel
theorem dX4_countCovering_21 : decode cX4_countCovering 21 = .ok (.getfield 86, 3) := by decide +kernel
theorem dX4_countCovering_24 : decode cX4_countCovering 24 = .ok (.aload_n 0, 1) := by decide +kernel
theorem dX4_countCovering_25 : decode cX4_countCovering 25 = .ok (.getfield 28, 3) := by decide +kernel
theorem dX4_countCovering_28 : decode cX4_countCovering 28 = .ok (.getfield 160, 3) := by decide +kernel
theorem dX4_countCovering_31 : decode cX4_countCovering 31 = .ok (.iload 4, 2) := by decide +kernel
theorem dX4_countCovering_33 : decode cX4_countCovering 33 = .ok (.iaload, 1) := by decide +kernel
theorem dX4_countCovering_34 : decode cX4_countCovering 34 = .ok (.iaload, 1) := by decide +kernel
theorem dX4_countCovering_35 : decode cX4_countCovering 35 = .ok (.iload_n 1, 1) := by decide +kernel
theorem dX4_countCovering_36 : decode cX4_countCovering 36 = .ok (.if_icmp .ne 19, 3) := by decide +kernel
theorem dX4_countCovering_39 : decode cX4_countCovering 39 = .ok (.aload_n 0, 1) := by decide +kernel
theorem dX4_countCovering_40 : decode cX4_countCovering 40 = .ok (.getfield 28, 3) := by decide +kernel
theorem dX4_countCovering_43 : decode cX4_countCovering 43 = .ok (.iload 4, 2) := by decide +kernel
theorem dX4_countCovering_45 : decode cX4_countCovering 45 = .ok (.iload_n 2, 1) := by decide +kernel
theorem dX4_countCovering_46 : decode cX4_countCovering 46 = .ok (.invokevirtual 163, 3) := by decide +kernel
theorem dX4_countCovering_49 : decode cX4_countCovering 49 = .ok (.ifCond .eq 6, 3) := by decide +kernel
theorem dX4_countCovering_52 : decode cX4_countCovering 52 = .ok (.iinc 3 1, 3) := by decide +kernel
theorem dX4_countCovering_55 : decode cX4_countCovering 55 = .ok (.iinc 4 1, 3) := by decide +kernel
theorem dX4_countCovering_58 : decode cX4_countCovering 58 = .ok (.goto (-53), 3) := by decide +kernel
theorem dX4_countCovering_61 : decode cX4_countCovering 61 = .ok (.iload_n 3, 1) := by decide +kernel
theorem dX4_countCovering_62 : decode cX4_countCovering 62 = .ok (.ireturn, 1) := by decide +kernel
theorem dX4_refusalReason_0 : decode cX4_refusalReason 0 = .ok (.iload_n 2, 1) := by decide +kernel
theorem dX4_refusalReason_1 : decode cX4_refusalReason 1 = .ok (.iload_n 3, 1) := by decide +kernel
theorem dX4_refusalReason_2 : decode cX4_refusalReason 2 = .ok (.iadd, 1) := by decide +kernel
theorem dX4_refusalReason_3 : decode cX4_refusalReason 3 = .ok (.istore 4, 2) := by decide +kernel
theorem dX4_refusalReason_5 : decode cX4_refusalReason 5 = .ok (.iload_n 2, 1) := by decide +kernel
theorem dX4_refusalReason_6 : decode cX4_refusalReason 6 = .ok (.aload_n 0, 1) := by decide +kernel
theorem dX4_refusalReason_7 : decode cX4_refusalReason 7 = .ok (.getfield 46, 3) := by decide +kernel
theorem dX4_refusalReason_10 : decode cX4_refusalReason 10 = .ok (.if_icmp .ge 5, 3) := by decide +kernel
theorem dX4_refusalReason_13 : decode cX4_refusalReason 13 = .ok (.iconst 1, 1) := by decide +kernel
theorem dX4_refusalReason_14 : decode cX4_refusalReason 14 = .ok (.ireturn, 1) := by decide +kernel
theorem dX4_refusalReason_15 : decode cX4_refusalReason 15 = .ok (.aload_n 0, 1) := by decide +kernel
theorem dX4_refusalReason_16 : decode cX4_refusalReason 16 = .ok (.getfield 28, 3) := by decide +kernel
theorem dX4_refusalReason_19 : decode cX4_refusalReason 19 = .ok (.getfield 68, 3) := by decide +kernel
theorem dX4_refusalReason_22 : decode cX4_refusalReason 22 = .ok (.bipush 30, 2) := by decide +kernel
theorem dX4_refusalReason_24 : decode cX4_refusalReason 24 = .ok (.if_icmp .lt 5, 3) := by decide +kernel
theorem dX4_refusalReason_27 : decode cX4_refusalReason 27 = .ok (.iconst 2, 1) := by decide +kernel
theorem dX4_refusalReason_28 : decode cX4_refusalReason 28 = .ok (.ireturn, 1) := by decide +kernel
theorem dX4_refusalReason_29 : decode cX4_refusalReason 29 = .ok (.aload_n 0, 1) := by decide +kernel
theorem dX4_refusalReason_30 : decode cX4_refusalReason 30 = .ok (.getfield 28, 3) := by decide +kernel
theorem dX4_refusalReason_33 : decode cX4_refusalReason 33 = .ok (.iload_n 1, 1) := by decide +kernel
theorem dX4_refusalReason_34 : decode cX4_refusalReason 34 = .ok (.iload_n 2, 1) := by decide +kernel
theorem dX4_refusalReason_35 : decode cX4_refusalReason 35 = .ok (.iload 4, 2) := by decide +kernel
theorem dX4_refusalReason_37 : decode cX4_refusalReason 37 = .ok (.invokevirtual 166, 3) := by decide +kernel
theorem dX4_refusalReason_40 : decode cX4_refusalReason 40 = .ok (.ifCond .eq 5, 3) := by decide +kernel
theorem dX4_refusalReason_43 : decode cX4_refusalReason 43 = .ok (.iconst 3, 1) := by decide +kernel
theorem dX4_refusalReason_44 : decode cX4_refusalReason 44 = .ok (.ireturn, 1) := by decide +kernel
theorem dX4_refusalReason_45 : decode cX4_refusalReason 45 = .ok (.aload_n 0, 1) := by decide +kernel
theorem dX4_refusalReason_46 : decode cX4_refusalReason 46 = .ok (.aload_n 0, 1) := by decide +kernel
theorem dX4_refusalReason_47 : decode cX4_refusalReason 47 = .ok (.getfield 21, 3) := by decide +kernel
theorem dX4_refusalReason_50 : decode cX4_refusalReason 50 = .ok (.getfield 86, 3) := by decide +kernel
theorem dX4_refusalReason_53 : decode cX4_refusalReason 53 = .ok (.iload_n 1, 1) := by decide +kernel
theorem dX4_refusalReason_54 : decode cX4_refusalReason 54 = .ok (.iaload, 1) := by decide +kernel
theorem dX4_refusalReason_55 : decode cX4_refusalReason 55 = .ok (.iload_n 2, 1) := by decide +kernel
theorem dX4_refusalReason_56 : decode cX4_refusalReason 56 = .ok (.iload 4, 2) := by decide +kernel
theorem dX4_refusalReason_58 : decode cX4_refusalReason 58 = .ok (.invokevirtual 169, 3) := by decide +kernel
theorem dX4_refusalReason_61 : decode cX4_refusalReason 61 = .ok (.ifCond .eq 5, 3) := by decide +kernel
theorem dX4_refusalReason_64 : decode cX4_refusalReason 64 = .ok (.iconst 4, 1) := by decide +kernel
theorem dX4_refusalReason_65 : decode cX4_refusalReason 65 = .ok (.ireturn, 1) := by decide +kernel
theorem dX4_refusalReason_66 : decode cX4_refusalReason 66 = .ok (.aload_n 0, 1) := by decide +kernel
theorem dX4_refusalReason_67 : decode cX4_refusalReason 67 = .ok (.iload_n 1, 1) := by decide +kernel
theorem dX4_refusalReason_68 : decode cX4_refusalReason 68 = .ok (.iload_n 2, 1) := by decide +kernel
theorem dX4_refusalReason_69 : decode cX4_refusalReason 69 = .ok (.iload 4, 2) := by decide +kernel
theorem dX4_refusalReason_71 : decode cX4_refusalReason 71 = .ok (.invokevirtual 172, 3) := by decide +kernel
theorem dX4_refusalReason_74 : decode cX4_refusalReason 74 = .ok (.ifCond .ne 5, 3) := by decide +kernel
theorem dX4_refusalReason_77 : decode cX4_refusalReason 77 = .ok (.iconst 5, 1) := by decide +kernel
theorem dX4_refusalReason_78 : decode cX4_refusalReason 78 = .ok (.ireturn, 1) := by decide +kernel
theorem dX4_refusalReason_79 : decode cX4_refusalReason 79 = .ok (.aload_n 0, 1) := by decide +kernel
theorem dX4_refusalReason_80 : decode cX4_refusalReason 80 = .ok (.iload_n 1, 1) := by decide +kernel
theorem dX4_refusalReason_81 : decode cX4_refusalReason 81 = .ok (.iload_n 2, 1) := by decide +kernel
theorem dX4_refusalReason_82 : decode cX4_refusalReason 82 = .ok (.iload 4, 2) := by decide +kernel
theorem dX4_refusalReason_84 : decode cX4_refusalReason 84 = .ok (.invokevirtual 175, 3) := by decide +kernel
theorem dX4_refusalReason_87 : decode cX4_refusalReason 87 = .ok (.iconst (-1), 1) := by decide +kernel
theorem dX4_refusalReason_88 : decode cX4_refusalReason 88 = .ok (.if_icmp .eq 6, 3) := by decide +kernel
theorem dX4_refusalReason_91 : decode cX4_refusalReason 91 = .ok (.bipush 6, 2) := by decide +kernel
theorem dX4_refusalReason_93 : decode cX4_refusalReason 93 = .ok (.ireturn, 1) := by decide +kernel
theorem dX4_refusalReason_94 : decode cX4_refusalReason 94 = .ok (.aload_n 0, 1) := by decide +kernel
theorem dX4_refusalReason_95 : decode cX4_refusalReason 95 = .ok (.getfield 21, 3) := by decide +kernel
theorem dX4_refusalReason_98 : decode cX4_refusalReason 98 = .ok (.getfield 92, 3) := by decide +kernel
theorem dX4_refusalReason_101 : decode cX4_refusalReason 101 = .ok (.iload_n 1, 1) := by decide +kernel
theorem dX4_refusalReason_102 : decode cX4_refusalReason 102 = .ok (.iaload, 1) := by decide +kernel
theorem dX4_refusalReason_103 : decode cX4_refusalReason 103 = .ok (.aload_n 0, 1) := by decide +kernel
theorem dX4_refusalReason_104 : decode cX4_refusalReason 104 = .ok (.getfield 12, 3) := by decide +kernel
theorem dX4_refusalReason_107 : decode cX4_refusalReason 107 = .ok (.getfield 178, 3) := by decide +kernel
theorem dX4_refusalReason_110 : decode cX4_refusalReason 110 = .ok (.iload_n 3, 1) := by decide +kernel
theorem dX4_refusalReason_111 : decode cX4_refusalReason 111 = .ok (.imul, 1) := by decide +kernel
theorem dX4_refusalReason_112 : decode cX4_refusalReason 112 = .ok (.if_icmp .ge 8, 3) := by decide +kernel
theorem dX4_refusalReason_115 : decode cX4_refusalReason 115 = .ok (.bipush 7, 2) := by decide +kernel
theorem dX4_refusalReason_117 : decode cX4_refusalReason 117 = .ok (.goto 4, 3) := by decide +kernel
theorem dX4_refusalReason_120 : decode cX4_refusalReason 120 = .ok (.iconst 0, 1) := by decide +kernel
theorem dX4_refusalReason_121 : decode cX4_refusalReason 121 = .ok (.ireturn, 1) := by decide +kernel
theorem dX4_isQuotaUsedUp_0 : decode cX4_isQuotaUsedUp 0 = .ok (.iload_n 2, 1) := by decide +kernel
theorem dX4_isQuotaUsedUp_1 : decode cX4_isQuotaUsedUp 1 = .ok (.istore 4, 2) := by decide +kernel
theorem dX4_isQuotaUsedUp_3 : decode cX4_isQuotaUsedUp 3 = .ok (.iload 4, 2) := by decide +kernel
theorem dX4_isQuotaUsedUp_5 : decode cX4_isQuotaUsedUp 5 = .ok (.iload_n 3, 1) := by decide +kernel
theorem dX4_isQuotaUsedUp_6 : decode cX4_isQuotaUsedUp 6 = .ok (.if_icmp .ge 30, 3) := by decide +kernel
theorem dX4_isQuotaUsedUp_9 : decode cX4_isQuotaUsedUp 9 = .ok (.aload_n 0, 1) := by decide +kernel
theorem dX4_isQuotaUsedUp_10 : decode cX4_isQuotaUsedUp 10 = .ok (.iload_n 1, 1) := by decide +kernel
theorem dX4_isQuotaUsedUp_11 : decode cX4_isQuotaUsedUp 11 = .ok (.iload 4, 2) := by decide +kernel
theorem dX4_isQuotaUsedUp_13 : decode cX4_isQuotaUsedUp 13 = .ok (.invokevirtual 181, 3) := by decide +kernel
theorem dX4_isQuotaUsedUp_16 : decode cX4_isQuotaUsedUp 16 = .ok (.aload_n 0, 1) := by decide +kernel
theorem dX4_isQuotaUsedUp_17 : decode cX4_isQuotaUsedUp 17 = .ok (.getfield 12, 3) := by decide +kernel
theorem dX4_isQuotaUsedUp_20 : decode cX4_isQuotaUsedUp 20 = .ok (.getfield 184, 3) := by decide +kernel
theorem dX4_isQuotaUsedUp_23 : decode cX4_isQuotaUsedUp 23 = .ok (.iload_n 1, 1) := by decide +kernel
theorem dX4_isQuotaUsedUp_24 : decode cX4_isQuotaUsedUp 24 = .ok (.iaload, 1) := by decide +kernel
theorem dX4_isQuotaUsedUp_25 : decode cX4_isQuotaUsedUp 25 = .ok (.if_icmp .lt 5, 3) := by decide +kernel
theorem dX4_isQuotaUsedUp_28 : decode cX4_isQuotaUsedUp 28 = .ok (.iconst 1, 1) := by decide +kernel
theorem dX4_isQuotaUsedUp_29 : decode cX4_isQuotaUsedUp 29 = .ok (.ireturn, 1) := by decide +kernel
theorem dX4_isQuotaUsedUp_30 : decode cX4_isQuotaUsedUp 30 = .ok (.iinc 4 1, 3) := by decide +kernel
theorem dX4_isQuotaUsedUp_33 : decode cX4_isQuotaUsedUp 33 = .ok (.goto (-30), 3) := by decide +kernel
theorem dX4_isQuotaUsedUp_36 : decode cX4_isQuotaUsedUp 36 = .ok (.iconst 0, 1) := by decide +kernel
theorem dX4_isQuotaUsedUp_37 : decode cX4_isQuotaUsedUp 37 = .ok (.ireturn, 1) := by decide +kernel
theorem dX4_fliesAllHours_0 : decode cX4_fliesAllHours 0 = .ok (.iload_n 2, 1) := by decide +kernel
theorem dX4_fliesAllHours_1 : decode cX4_fliesAllHours 1 = .ok (.istore 4, 2) := by decide +kernel
theorem dX4_fliesAllHours_3 : decode cX4_fliesAllHours 3 = .ok (.iload 4, 2) := by decide +kernel
theorem dX4_fliesAllHours_5 : decode cX4_fliesAllHours 5 = .ok (.iload_n 3, 1) := by decide +kernel
theorem dX4_fliesAllHours_6 : decode cX4_fliesAllHours 6 = .ok (.if_icmp .ge 21, 3) := by decide +kernel
theorem dX4_fliesAllHours_9 : decode cX4_fliesAllHours 9 = .ok (.aload_n 0, 1) := by decide +kernel
theorem dX4_fliesAllHours_10 : decode cX4_fliesAllHours 10 = .ok (.iload_n 1, 1) := by decide +kernel
theorem dX4_fliesAllHours_11 : decode cX4_fliesAllHours 11 = .ok (.iload 4, 2) := by decide +kernel
theorem dX4_fliesAllHours_13 : decode cX4_fliesAllHours 13 = .ok (.invokevirtual 187, 3) := by decide +kernel
theorem dX4_fliesAllHours_16 : decode cX4_fliesAllHours 16 = .ok (.ifCond .ne 5, 3) := by decide +kernel
theorem dX4_fliesAllHours_19 : decode cX4_fliesAllHours 19 = .ok (.iconst 0, 1) := by decide +kernel
theorem dX4_fliesAllHours_20 : decode cX4_fliesAllHours 20 = .ok (.ireturn, 1) := by decide +kernel
theorem dX4_fliesAllHours_21 : decode cX4_fliesAllHours 21 = .ok (.iinc 4 1, 3) := by decide +kernel
theorem dX4_fliesAllHours_24 : decode cX4_fliesAllHours 24 = .ok (.goto (-21), 3) := by decide +kernel
theorem dX4_fliesAllHours_27 : decode cX4_fliesAllHours 27 = .ok (.iconst 1, 1) := by decide +kernel
theorem dX4_fliesAllHours_28 : decode cX4_fliesAllHours 28 = .ok (.ireturn, 1) := by decide +kernel
theorem dX4_firstCrossedKite_0 : decode cX4_firstCrossedKite 0 = .ok (.iconst (-1), 1) := by decide +kernel
theorem dX4_firstCrossedKite_1 : decode cX4_firstCrossedKite 1 = .ok (.istore 4, 2) := by decide +kernel
theorem dX4_firstCrossedKite_3 : decode cX4_firstCrossedKite 3 = .ok (.iconst 0, 1) := by decide +kernel
theorem dX4_firstCrossedKite_4 : decode cX4_firstCrossedKite 4 = .ok (.istore 5, 2) := by decide +kernel
theorem dX4_firstCrossedKite_6 : decode cX4_firstCrossedKite 6 = .ok (.iload 5, 2) := by decide +kernel
theorem dX4_firstCrossedKite_8 : decode cX4_firstCrossedKite 8 = .ok (.aload_n 0, 1) := by decide +kernel
theorem dX4_firstCrossedKite_9 : decode cX4_firstCrossedKite 9 = .ok (.getfield 28, 3) := by decide +kernel
theorem dX4_firstCrossedKite_12 : decode cX4_firstCrossedKite 12 = .ok (.getfield 68, 3) := by decide +kernel
theorem dX4_firstCrossedKite_15 : decode cX4_firstCrossedKite 15 = .ok (.if_icmp .ge 68, 3) := by decide +kernel
theorem dX4_firstCrossedKite_18 : decode cX4_firstCrossedKite 18 = .ok (.aload_n 0, 1) := by decide +kernel
theorem dX4_firstCrossedKite_19 : decode cX4_firstCrossedKite 19 = .ok (.getfield 28, 3) := by decide +kernel
theorem dX4_firstCrossedKite_22 : decode cX4_firstCrossedKite 22 = .ok (.getfield 160, 3) := by decide +kernel
theorem dX4_firstCrossedKite_25 : decode cX4_firstCrossedKite 25 = .ok (.iload 5, 2) := by decide +kernel
theorem dX4_firstCrossedKite_27 : decode cX4_firstCrossedKite 27 = .ok (.iaload, 1) := by decide +kernel
theorem dX4_firstCrossedKite_28 : decode cX4_firstCrossedKite 28 = .ok (.istore 6, 2) := by decide +kernel
theorem dX4_firstCrossedKite_30 : decode cX4_firstCrossedKite 30 = .ok (.iload 4, 2) := by decide +kernel
theorem dX4_firstCrossedKite_32 : decode cX4_firstCrossedKite 32 = .ok (.iconst (-1), 1) := by decide +kernel
theorem dX4_firstCrossedKite_33 : decode cX4_firstCrossedKite 33 = .ok (.if_icmp .eq 10, 3) := by decide +kernel
theorem dX4_firstCrossedKite_36 : decode cX4_firstCrossedKite 36 = .ok (.iload 6, 2) := by decide +kernel
theorem dX4_firstCrossedKite_38 : decode cX4_firstCrossedKite 38 = .ok (.iload 4, 2) := by decide +kernel
theorem dX4_firstCrossedKite_40 : decode cX4_firstCrossedKite 40 = .ok (.if_icmp .ge 7, 3) := by decide +kernel
theorem dX4_firstCrossedKite_43 : decode cX4_firstCrossedKite 43 = .ok (.iconst 1, 1) := by decide +kernel
theorem dX4_firstCrossedKite_44 : decode cX4_firstCrossedKite 44 = .ok (.goto 4, 3) := by decide +kernel
theorem dX4_firstCrossedKite_47 : decode cX4_firstCrossedKite 47 = .ok (.iconst 0, 1) := by decide +kernel
theorem dX4_firstCrossedKite_48 : decode cX4_firstCrossedKite 48 = .ok (.istore 7, 2) := by decide +kernel
theorem dX4_firstCrossedKite_50 : decode cX4_firstCrossedKite 50 = .ok (.iload 6, 2) := by decide +kernel
theorem dX4_firstCrossedKite_52 : decode cX4_firstCrossedKite 52 = .ok (.iload_n 1, 1) := by decide +kernel
theorem dX4_firstCrossedKite_53 : decode cX4_firstCrossedKite 53 = .ok (.if_icmp .eq 24, 3) := by decide +kernel
theorem dX4_firstCrossedKite_56 : decode cX4_firstCrossedKite 56 = .ok (.iload 7, 2) := by decide +kernel
theorem dX4_firstCrossedKite_58 : decode cX4_firstCrossedKite 58 = .ok (.ifCond .eq 19, 3) := by decide +kernel
theorem dX4_firstCrossedKite_61 : decode cX4_firstCrossedKite 61 = .ok (.aload_n 0, 1) := by decide +kernel
theorem dX4_firstCrossedKite_62 : decode cX4_firstCrossedKite 62 = .ok (.iload_n 1, 1) := by decide +kernel
theorem dX4_firstCrossedKite_63 : decode cX4_firstCrossedKite 63 = .ok (.iload 5, 2) := by decide +kernel
theorem dX4_firstCrossedKite_65 : decode cX4_firstCrossedKite 65 = .ok (.iload_n 2, 1) := by decide +kernel
theorem dX4_firstCrossedKite_66 : decode cX4_firstCrossedKite 66 = .ok (.iload_n 3, 1) := by decide +kernel
theorem dX4_firstCrossedKite_67 : decode cX4_firstCrossedKite 67 = .ok (.invokevirtual 190, 3) := by decide +kernel
theorem dX4_firstCrossedKite_70 : decode cX4_firstCrossedKite 70 = .ok (.ifCond .le 7, 3) := by decide +kernel
theorem dX4_firstCrossedKite_73 : decode cX4_firstCrossedKite 73 = .ok (.iload 6, 2) := by decide +kernel
theorem dX4_firstCrossedKite_75 : decode cX4_firstCrossedKite 75 = .ok (.istore 4, 2) := by decide +kernel
theorem dX4_firstCrossedKite_77 : decode cX4_firstCrossedKite 77 = .ok (.iinc 5 1, 3) := by decide +kernel
theorem dX4_firstCrossedKite_80 : decode cX4_firstCrossedKite 80 = .ok (.goto (-74), 3) := by decide +kernel
theorem dX4_firstCrossedKite_83 : decode cX4_firstCrossedKite 83 = .ok (.iload 4, 2) := by decide +kernel
theorem dX4_firstCrossedKite_85 : decode cX4_firstCrossedKite 85 = .ok (.ireturn, 1) := by decide +kernel
theorem dX4_countCrossings_0 : decode cX4_countCrossings 0 = .ok (.iconst 0, 1) := by decide +kernel
theorem dX4_countCrossings_1 : decode cX4_countCrossings 1 = .ok (.istore 5, 2) := by decide +kernel
theorem dX4_countCrossings_3 : decode cX4_countCrossings 3 = .ok (.iload 4, 2) := by decide +kernel
theorem dX4_countCrossings_5 : decode cX4_countCrossings 5 = .ok (.aload_n 0, 1) := by decide +kernel
theorem dX4_countCrossings_6 : decode cX4_countCrossings 6 = .ok (.getfield 28, 3) := by decide +kernel
theorem dX4_countCrossings_9 : decode cX4_countCrossings 9 = .ok (.iload_n 2, 1) := by decide +kernel
theorem dX4_countCrossings_10 : decode cX4_countCrossings 10 = .ok (.invokevirtual 194, 3) := by decide +kernel
theorem dX4_countCrossings_13 : decode cX4_countCrossings 13 = .ok (.invokestatic 111, 3) := by decide +kernel
theorem dX4_countCrossings_16 : decode cX4_countCrossings 16 = .ok (.istore 6, 2) := by decide +kernel
theorem dX4_countCrossings_18 : decode cX4_countCrossings 18 = .ok (.iload_n 3, 1) := by decide +kernel
theorem dX4_countCrossings_19 : decode cX4_countCrossings 19 = .ok (.aload_n 0, 1) := by decide +kernel
theorem dX4_countCrossings_20 : decode cX4_countCrossings 20 = .ok (.getfield 28, 3) := by decide +kernel
theorem dX4_countCrossings_23 : decode cX4_countCrossings 23 = .ok (.getfield 197, 3) := by decide +kernel
theorem dX4_countCrossings_26 : decode cX4_countCrossings 26 = .ok (.iload_n 2, 1) := by decide +kernel
theorem dX4_countCrossings_27 : decode cX4_countCrossings 27 = .ok (.iaload, 1) := by decide +kernel
theorem dX4_countCrossings_28 : decode cX4_countCrossings 28 = .ok (.invokestatic 157, 3) := by decide +kernel
theorem dX4_countCrossings_31 : decode cX4_countCrossings 31 = .ok (.istore 7, 2) := by decide +kernel
theorem dX4_countCrossings_33 : decode cX4_countCrossings 33 = .ok (.iload 7, 2) := by decide +kernel
theorem dX4_countCrossings_35 : decode cX4_countCrossings 35 = .ok (.iload 6, 2) := by decide +kernel
theorem dX4_countCrossings_37 : decode cX4_countCrossings 37 = .ok (.if_icmp .ge 31, 3) := by decide +kernel
theorem dX4_countCrossings_40 : decode cX4_countCrossings 40 = .ok (.aload_n 0, 1) := by decide +kernel
theorem dX4_countCrossings_41 : decode cX4_countCrossings 41 = .ok (.iload_n 1, 1) := by decide +kernel
theorem dX4_countCrossings_42 : decode cX4_countCrossings 42 = .ok (.aload_n 0, 1) := by decide +kernel
theorem dX4_countCrossings_43 : decode cX4_countCrossings 43 = .ok (.getfield 28, 3) := by decide +kernel
theorem dX4_countCrossings_46 : decode cX4_countCrossings 46 = .ok (.getfield 160, 3) := by decide +kernel
theorem dX4_countCrossings_49 : decode cX4_countCrossings 49 = .ok (.iload_n 2, 1) := by decide +kernel
theorem dX4_countCrossings_50 : decode cX4_countCrossings 50 = .ok (.iaload, 1) := by decide +kernel
theorem dX4_countCrossings_51 : decode cX4_countCrossings 51 = .ok (.iload 7, 2) := by decide +kernel
theorem dX4_countCrossings_53 : decode cX4_countCrossings 53 = .ok (.invokevirtual 200, 3) := by decide +kernel
theorem dX4_countCrossings_56 : decode cX4_countCrossings 56 = .ok (.ifCond .eq 6, 3) := by decide +kernel
theorem dX4_countCrossings_59 : decode cX4_countCrossings 59 = .ok (.iinc 5 1, 3) := by decide +kernel
theorem dX4_countCrossings_62 : decode cX4_countCrossings 62 = .ok (.iinc 7 1, 3) := by decide +kernel
theorem dX4_countCrossings_65 : decode cX4_countCrossings 65 = .ok (.goto (-32), 3) := by decide +kernel
theorem dX4_countCrossings_68 : decode cX4_countCrossings 68 = .ok (.iload 5, 2) := by decide +kernel
theorem dX4_countCrossings_70 : decode cX4_countCrossings 70 = .ok (.ireturn, 1) := by decide +kernel
theorem dX4_countPermittedCrossings_0 : decode cX4_countPermittedCrossings 0 = .ok (.iconst 0, 1) := by decide +kernel
theorem dX4_countPermittedCrossings_1 : decode cX4_countPermittedCrossings 1 = .ok (.istore_n 1, 1) := by decide +kernel
theorem dX4_countPermittedCrossings_2 : decode cX4_countPermittedCrossings 2 = .ok (.iconst 0, 1) := by decide +kernel
theorem dX4_countPermittedCrossings_3 : decode cX4_countPermittedCrossings 3 = .ok (.istore_n 2, 1) := by decide +kernel
theorem dX4_countPermittedCrossings_4 : decode cX4_countPermittedCrossings 4 = .ok (.iload_n 2, 1) := by decide +kernel
theorem dX4_countPermittedCrossings_5 : decode cX4_countPermittedCrossings 5 = .ok (.aload_n 0, 1) := by decide +kernel
theorem dX4_countPermittedCrossings_6 : decode cX4_countPermittedCrossings 6 = .ok (.getfield 28, 3) := by decide +kernel
theorem dX4_countPermittedCrossings_9 : decode cX4_countPermittedCrossings 9 = .ok (.getfield 68, 3) := by decide +kernel
theorem dX4_countPermittedCrossings_12 : decode cX4_countPermittedCrossings 12 = .ok (.if_icmp .ge 94, 3) := by decide +kernel
theorem dX4_countPermittedCrossings_15 : decode cX4_countPermittedCrossings 15 = .ok (.aload_n 0, 1) := by decide +kernel
theorem dX4_countPermittedCrossings_16 : decode cX4_countPermittedCrossings 16 = .ok (.getfield 28, 3) := by decide +kernel
theorem dX4_countPermittedCrossings_19 : decode cX4_countPermittedCrossings 19 = .ok (.getfield 160, 3) := by decide +kernel
theorem dX4_countPermittedCrossings_22 : decode cX4_countPermittedCrossings 22 = .ok (.iload_n 2, 1) := by decide +kernel
theorem dX4_countPermittedCrossings_23 : decode cX4_countPermittedCrossings 23 = .ok (.iaload, 1) := by decide +kernel
theorem dX4_countPermittedCrossings_24 : decode cX4_countPermittedCrossings 24 = .ok (.istore_n 3, 1) := by decide +kernel
theorem dX4_countPermittedCrossings_25 : decode cX4_countPermittedCrossings 25 = .ok (.aload_n 0, 1) := by decide +kernel
theorem dX4_countPermittedCrossings_26 : decode cX4_countPermittedCrossings 26 = .ok (.getfield 46, 3) := by decide +kernel
theorem dX4_countPermittedCrossings_29 : decode cX4_countPermittedCrossings 29 = .ok (.aload_n 0, 1) := by decide +kernel
theorem dX4_countPermittedCrossings_30 : decode cX4_countPermittedCrossings 30 = .ok (.getfield 28, 3) := by decide +kernel
theorem dX4_countPermittedCrossings_33 : decode cX4_countPermittedCrossings 33 = .ok (.getfield 197, 3) := by decide +kernel
theorem dX4_countPermittedCrossings_36 : decode cX4_countPermittedCrossings 36 = .ok (.iload_n 2, 1) := by decide +kernel
theorem dX4_countPermittedCrossings_37 : decode cX4_countPermittedCrossings 37 = .ok (.iaload, 1) := by decide +kernel
theorem dX4_countPermittedCrossings_38 : decode cX4_countPermittedCrossings 38 = .ok (.invokestatic 157, 3) := by decide +kernel
theorem dX4_countPermittedCrossings_41 : decode cX4_countPermittedCrossings 41 = .ok (.istore 4, 2) := by decide +kernel
theorem dX4_countPermittedCrossings_43 : decode cX4_countPermittedCrossings 43 = .ok (.iload_n 2, 1) := by decide +kernel
theorem dX4_countPermittedCrossings_44 : decode cX4_countPermittedCrossings 44 = .ok (.iconst 1, 1) := by decide +kernel
theorem dX4_countPermittedCrossings_45 : decode cX4_countPermittedCrossings 45 = .ok (.iadd, 1) := by decide +kernel
theorem dX4_countPermittedCrossings_46 : decode cX4_countPermittedCrossings 46 = .ok (.istore 5, 2) := by decide +kernel
theorem dX4_countPermittedCrossings_48 : decode cX4_countPermittedCrossings 48 = .ok (.iload 5, 2) := by decide +kernel
theorem dX4_countPermittedCrossings_50 : decode cX4_countPermittedCrossings 50 = .ok (.aload_n 0, 1) := by decide +kernel
theorem dX4_countPermittedCrossings_51 : decode cX4_countPermittedCrossings 51 = .ok (.getfield 28, 3) := by decide +kernel
theorem dX4_countPermittedCrossings_54 : decode cX4_countPermittedCrossings 54 = .ok (.getfield 68, 3) := by decide +kernel
theorem dX4_countPermittedCrossings_57 : decode cX4_countPermittedCrossings 57 = .ok (.if_icmp .ge 43, 3) := by decide +kernel
theorem dX4_countPermittedCrossings_60 : decode cX4_countPermittedCrossings 60 = .ok (.aload_n 0, 1) := by decide +kernel
theorem dX4_countPermittedCrossings_61 : decode cX4_countPermittedCrossings 61 = .ok (.getfield 28, 3) := by decide +kernel
theorem dX4_countPermittedCrossings_64 : decode cX4_countPermittedCrossings 64 = .ok (.getfield 160, 3) := by decide +kernel
theorem dX4_countPermittedCrossings_67 : decode cX4_countPermittedCrossings 67 = .ok (.iload 5, 2) := by decide +kernel
theorem dX4_countPermittedCrossings_69 : decode cX4_countPermittedCrossings 69 = .ok (.iaload, 1) := by decide +kernel
theorem dX4_countPermittedCrossings_70 : decode cX4_countPermittedCrossings 70 = .ok (.iload_n 3, 1) := by decide +kernel
theorem dX4_countPermittedCrossings_71 : decode cX4_countPermittedCrossings 71 = .ok (.if_icmp .eq 23, 3) := by decide +kernel
theorem dX4_countPermittedCrossings_74 : decode cX4_countPermittedCrossings 74 = .ok (.iload_n 1, 1) := by decide +kernel
theorem dX4_countPermittedCrossings_75 : decode cX4_countPermittedCrossings 75 = .ok (.aload_n 0, 1) := by decide +kernel
theorem dX4_countPermittedCrossings_76 : decode cX4_countPermittedCrossings 76 = .ok (.iload_n 3, 1) := by decide +kernel
theorem dX4_countPermittedCrossings_77 : decode cX4_countPermittedCrossings 77 = .ok (.iload 5, 2) := by decide +kernel
theorem dX4_countPermittedCrossings_79 : decode cX4_countPermittedCrossings 79 = .ok (.iload 4, 2) := by decide +kernel
theorem dX4_countPermittedCrossings_81 : decode cX4_countPermittedCrossings 81 = .ok (.aload_n 0, 1) := by decide +kernel
theorem dX4_countPermittedCrossings_82 : decode cX4_countPermittedCrossings 82 = .ok (.getfield 28, 3) := by decide +kernel
theorem dX4_countPermittedCrossings_85 : decode cX4_countPermittedCrossings 85 = .ok (.iload_n 2, 1) := by decide +kernel
theorem dX4_countPermittedCrossings_86 : decode cX4_countPermittedCrossings 86 = .ok (.invokevirtual 194, 3) := by decide +kernel
theorem dX4_countPermittedCrossings_89 : decode cX4_countPermittedCrossings 89 = .ok (.invokevirtual 190, 3) := by decide +kernel
theorem dX4_countPermittedCrossings_92 : decode cX4_countPermittedCrossings 92 = .ok (.iadd, 1) := by decide +kernel
theorem dX4_countPermittedCrossings_93 : decode cX4_countPermittedCrossings 93 = .ok (.istore_n 1, 1) := by decide +kernel
theorem dX4_countPermittedCrossings_94 : decode cX4_countPermittedCrossings 94 = .ok (.iinc 5 1, 3) := by decide +kernel
theorem dX4_countPermittedCrossings_97 : decode cX4_countPermittedCrossings 97 = .ok (.goto (-49), 3) := by decide +kernel
theorem dX4_countPermittedCrossings_100 : decode cX4_countPermittedCrossings 100 = .ok (.iinc 2 1, 3) := by decide +kernel
theorem dX4_countPermittedCrossings_103 : decode cX4_countPermittedCrossings 103 = .ok (.goto (-99), 3) := by decide +kernel
theorem dX4_countPermittedCrossings_106 : decode cX4_countPermittedCrossings 106 = .ok (.iload_n 1, 1) := by decide +kernel
theorem dX4_countPermittedCrossings_107 : decode cX4_countPermittedCrossings 107 = .ok (.ireturn, 1) := by decide +kernel
theorem dX4_grant_0 : decode cX4_grant 0 = .ok (.aload_n 0, 1) := by decide +kernel
theorem dX4_grant_1 : decode cX4_grant 1 = .ok (.iload_n 1, 1) := by decide +kernel
theorem dX4_grant_2 : decode cX4_grant 2 = .ok (.aload_n 0, 1) := by decide +kernel
theorem dX4_grant_3 : decode cX4_grant 3 = .ok (.getfield 12, 3) := by decide +kernel
theorem dX4_grant_6 : decode cX4_grant 6 = .ok (.getfield 178, 3) := by decide +kernel
theorem dX4_grant_9 : decode cX4_grant 9 = .ok (.iload_n 3, 1) := by decide +kernel
theorem dX4_grant_10 : decode cX4_grant 10 = .ok (.imul, 1) := by decide +kernel
theorem dX4_grant_11 : decode cX4_grant 11 = .ok (.invokevirtual 203, 3) := by decide +kernel
theorem dX4_grant_14 : decode cX4_grant 14 = .ok (.aload_n 0, 1) := by decide +kernel
theorem dX4_grant_15 : decode cX4_grant 15 = .ok (.getfield 28, 3) := by decide +kernel
theorem dX4_grant_18 : decode cX4_grant 18 = .ok (.iload_n 1, 1) := by decide +kernel
theorem dX4_grant_19 : decode cX4_grant 19 = .ok (.iload_n 2, 1) := by decide +kernel
theorem dX4_grant_20 : decode cX4_grant 20 = .ok (.iload_n 3, 1) := by decide +kernel
theorem dX4_grant_21 : decode cX4_grant 21 = .ok (.invokevirtual 207, 3) := by decide +kernel
theorem dX4_grant_24 : decode cX4_grant 24 = .ok (.return_, 1) := by decide +kernel
theorem dX4_payOffice_0 : decode cX4_payOffice 0 = .ok (.aload_n 0, 1) := by decide +kernel
theorem dX4_payOffice_1 : decode cX4_payOffice 1 = .ok (.getfield 21, 3) := by decide +kernel
theorem dX4_payOffice_4 : decode cX4_payOffice 4 = .ok (.getfield 92, 3) := by decide +kernel
theorem dX4_payOffice_7 : decode cX4_payOffice 7 = .ok (.iload_n 1, 1) := by decide +kernel
theorem dX4_payOffice_8 : decode cX4_payOffice 8 = .ok (.dup2, 1) := by decide +kernel
theorem dX4_payOffice_9 : decode cX4_payOffice 9 = .ok (.iaload, 1) := by decide +kernel
theorem dX4_payOffice_10 : decode cX4_payOffice 10 = .ok (.iload_n 2, 1) := by decide +kernel
theorem dX4_payOffice_11 : decode cX4_payOffice 11 = .ok (.isub, 1) := by decide +kernel
theorem dX4_payOffice_12 : decode cX4_payOffice 12 = .ok (.iastore, 1) := by decide +kernel
theorem dX4_payOffice_13 : decode cX4_payOffice 13 = .ok (.aload_n 0, 1) := by decide +kernel
theorem dX4_payOffice_14 : decode cX4_payOffice 14 = .ok (.dup, 1) := by decide +kernel
theorem dX4_payOffice_15 : decode cX4_payOffice 15 = .ok (.getfield 50, 3) := by decide +kernel
theorem dX4_payOffice_18 : decode cX4_payOffice 18 = .ok (.iload_n 2, 1) := by decide +kernel
theorem dX4_payOffice_19 : decode cX4_payOffice 19 = .ok (.iadd, 1) := by decide +kernel
theorem dX4_payOffice_20 : decode cX4_payOffice 20 = .ok (.putfield 50, 3) := by decide +kernel
theorem dX4_payOffice_23 : decode cX4_payOffice 23 = .ok (.return_, 1) := by decide +kernel
theorem dX4_isLaunchable_0 : decode cX4_isLaunchable 0 = .ok (.aload_n 0, 1) := by decide +kernel
theorem dX4_isLaunchable_1 : decode cX4_isLaunchable 1 = .ok (.getfield 21, 3) := by decide +kernel
theorem dX4_isLaunchable_4 : decode cX4_isLaunchable 4 = .ok (.getfield 95, 3) := by decide +kernel
theorem dX4_isLaunchable_7 : decode cX4_isLaunchable 7 = .ok (.iload_n 1, 1) := by decide +kernel
theorem dX4_isLaunchable_8 : decode cX4_isLaunchable 8 = .ok (.iaload, 1) := by decide +kernel
theorem dX4_isLaunchable_9 : decode cX4_isLaunchable 9 = .ok (.ifCond .ne 19, 3) := by decide +kernel
theorem dX4_isLaunchable_12 : decode cX4_isLaunchable 12 = .ok (.aload_n 0, 1) := by decide +kernel
theorem dX4_isLaunchable_13 : decode cX4_isLaunchable 13 = .ok (.iload_n 1, 1) := by decide +kernel
theorem dX4_isLaunchable_14 : decode cX4_isLaunchable 14 = .ok (.aload_n 0, 1) := by decide +kernel
theorem dX4_isLaunchable_15 : decode cX4_isLaunchable 15 = .ok (.getfield 46, 3) := by decide +kernel
theorem dX4_isLaunchable_18 : decode cX4_isLaunchable 18 = .ok (.invokevirtual 187, 3) := by decide +kernel
theorem dX4_isLaunchable_21 : decode cX4_isLaunchable 21 = .ok (.ifCond .eq 7, 3) := by decide +kernel
theorem dX4_isLaunchable_24 : decode cX4_isLaunchable 24 = .ok (.iconst 1, 1) := by decide +kernel
theorem dX4_isLaunchable_25 : decode cX4_isLaunchable 25 = .ok (.goto 4, 3) := by decide +kernel
theorem dX4_isLaunchable_28 : decode cX4_isLaunchable 28 = .ok (.iconst 0, 1) := by decide +kernel
theorem dX4_isLaunchable_29 : decode cX4_isLaunchable 29 = .ok (.ireturn, 1) := by decide +kernel
theorem dX4_sendUp_0 : decode cX4_sendUp 0 = .ok (.aload_n 0, 1) := by decide +kernel
theorem dX4_sendUp_1 : decode cX4_sendUp 1 = .ok (.getfield 21, 3) := by decide +kernel
theorem dX4_sendUp_4 : decode cX4_sendUp 4 = .ok (.getfield 95, 3) := by decide +kernel
theorem dX4_sendUp_7 : decode cX4_sendUp 7 = .ok (.iload_n 1, 1) := by decide +kernel
theorem dX4_sendUp_8 : decode cX4_sendUp 8 = .ok (.iconst 1, 1) := by decide +kernel
theorem dX4_sendUp_9 : decode cX4_sendUp 9 = .ok (.iastore, 1) := by decide +kernel
theorem dX4_sendUp_10 : decode cX4_sendUp 10 = .ok (.aload_n 0, 1) := by decide +kernel
theorem dX4_sendUp_11 : decode cX4_sendUp 11 = .ok (.getfield 21, 3) := by decide +kernel
theorem dX4_sendUp_14 : decode cX4_sendUp 14 = .ok (.dup, 1) := by decide +kernel
theorem dX4_sendUp_15 : decode cX4_sendUp 15 = .ok (.getfield 65, 3) := by decide +kernel
theorem dX4_sendUp_18 : decode cX4_sendUp 18 = .ok (.iconst 1, 1) := by decide +kernel
theorem dX4_sendUp_19 : decode cX4_sendUp 19 = .ok (.iadd, 1) := by decide +kernel
theorem dX4_sendUp_20 : decode cX4_sendUp 20 = .ok (.putfield 65, 3) := by decide +kernel
theorem dX4_sendUp_23 : decode cX4_sendUp 23 = .ok (.aload_n 0, 1) := by decide +kernel
theorem dX4_sendUp_24 : decode cX4_sendUp 24 = .ok (.getfield 21, 3) := by decide +kernel
theorem dX4_sendUp_27 : decode cX4_sendUp 27 = .ok (.getfield 98, 3) := by decide +kernel
theorem dX4_sendUp_30 : decode cX4_sendUp 30 = .ok (.iload_n 1, 1) := by decide +kernel
theorem dX4_sendUp_31 : decode cX4_sendUp 31 = .ok (.aload_n 0, 1) := by decide +kernel
theorem dX4_sendUp_32 : decode cX4_sendUp 32 = .ok (.getfield 21, 3) := by decide +kernel
theorem dX4_sendUp_35 : decode cX4_sendUp 35 = .ok (.getfield 65, 3) := by decide +kernel
theorem dX4_sendUp_38 : decode cX4_sendUp 38 = .ok (.iastore, 1) := by decide +kernel
theorem dX4_sendUp_39 : decode cX4_sendUp 39 = .ok (.return_, 1) := by decide +kernel
theorem dX4_bringDown_0 : decode cX4_bringDown 0 = .ok (.aload_n 0, 1) := by decide +kernel
theorem dX4_bringDown_1 : decode cX4_bringDown 1 = .ok (.getfield 21, 3) := by decide +kernel
theorem dX4_bringDown_4 : decode cX4_bringDown 4 = .ok (.getfield 95, 3) := by decide +kernel
theorem dX4_bringDown_7 : decode cX4_bringDown 7 = .ok (.iload_n 1, 1) := by decide +kernel
theorem dX4_bringDown_8 : decode cX4_bringDown 8 = .ok (.iconst 0, 1) := by decide +kernel
theorem dX4_bringDown_9 : decode cX4_bringDown 9 = .ok (.iastore, 1) := by decide +kernel
theorem dX4_bringDown_10 : decode cX4_bringDown 10 = .ok (.return_, 1) := by decide +kernel
theorem dX4_flyingReach_0 : decode cX4_flyingReach 0 = .ok (.iconst 0, 1) := by decide +kernel
theorem dX4_flyingReach_1 : decode cX4_flyingReach 1 = .ok (.istore_n 1, 1) := by decide +kernel
theorem dX4_flyingReach_2 : decode cX4_flyingReach 2 = .ok (.iconst 0, 1) := by decide +kernel
theorem dX4_flyingReach_3 : decode cX4_flyingReach 3 = .ok (.istore_n 2, 1) := by decide +kernel
theorem dX4_flyingReach_4 : decode cX4_flyingReach 4 = .ok (.iload_n 2, 1) := by decide +kernel
theorem dX4_flyingReach_5 : decode cX4_flyingReach 5 = .ok (.aload_n 0, 1) := by decide +kernel
theorem dX4_flyingReach_6 : decode cX4_flyingReach 6 = .ok (.getfield 21, 3) := by decide +kernel
theorem dX4_flyingReach_9 : decode cX4_flyingReach 9 = .ok (.getfield 62, 3) := by decide +kernel
theorem dX4_flyingReach_12 : decode cX4_flyingReach 12 = .ok (.if_icmp .ge 34, 3) := by decide +kernel
theorem dX4_flyingReach_15 : decode cX4_flyingReach 15 = .ok (.aload_n 0, 1) := by decide +kernel
theorem dX4_flyingReach_16 : decode cX4_flyingReach 16 = .ok (.getfield 21, 3) := by decide +kernel
theorem dX4_flyingReach_19 : decode cX4_flyingReach 19 = .ok (.getfield 95, 3) := by decide +kernel
theorem dX4_flyingReach_22 : decode cX4_flyingReach 22 = .ok (.iload_n 2, 1) := by decide +kernel
theorem dX4_flyingReach_23 : decode cX4_flyingReach 23 = .ok (.iaload, 1) := by decide +kernel
theorem dX4_flyingReach_24 : decode cX4_flyingReach 24 = .ok (.iconst 1, 1) := by decide +kernel
theorem dX4_flyingReach_25 : decode cX4_flyingReach 25 = .ok (.if_icmp .ne 15, 3) := by decide +kernel
theorem dX4_flyingReach_28 : decode cX4_flyingReach 28 = .ok (.iload_n 1, 1) := by decide +kernel
theorem dX4_flyingReach_29 : decode cX4_flyingReach 29 = .ok (.aload_n 0, 1) := by decide +kernel
theorem dX4_flyingReach_30 : decode cX4_flyingReach 30 = .ok (.iload_n 2, 1) := by decide +kernel
theorem dX4_flyingReach_31 : decode cX4_flyingReach 31 = .ok (.aload_n 0, 1) := by decide +kernel
theorem dX4_flyingReach_32 : decode cX4_flyingReach 32 = .ok (.getfield 46, 3) := by decide +kernel
theorem dX4_flyingReach_35 : decode cX4_flyingReach 35 = .ok (.invokevirtual 211, 3) := by decide +kernel
theorem dX4_flyingReach_38 : decode cX4_flyingReach 38 = .ok (.iadd, 1) := by decide +kernel
theorem dX4_flyingReach_39 : decode cX4_flyingReach 39 = .ok (.istore_n 1, 1) := by decide +kernel
theorem dX4_flyingReach_40 : decode cX4_flyingReach 40 = .ok (.iinc 2 1, 3) := by decide +kernel
theorem dX4_flyingReach_43 : decode cX4_flyingReach 43 = .ok (.goto (-39), 3) := by decide +kernel
theorem dX4_flyingReach_46 : decode cX4_flyingReach 46 = .ok (.iload_n 1, 1) := by decide +kernel
theorem dX4_flyingReach_47 : decode cX4_flyingReach 47 = .ok (.ireturn, 1) := by decide +kernel
theorem dX4_letHoursPass_0 : decode cX4_letHoursPass 0 = .ok (.iconst 0, 1) := by decide +kernel
theorem dX4_letHoursPass_1 : decode cX4_letHoursPass 1 = .ok (.istore_n 2, 1) := by decide +kernel
theorem dX4_letHoursPass_2 : decode cX4_letHoursPass 2 = .ok (.iconst 0, 1) := by decide +kernel
theorem dX4_letHoursPass_3 : decode cX4_letHoursPass 3 = .ok (.istore_n 3, 1) := by decide +kernel
theorem dX4_letHoursPass_4 : decode cX4_letHoursPass 4 = .ok (.iload_n 3, 1) := by decide +kernel
theorem dX4_letHoursPass_5 : decode cX4_letHoursPass 5 = .ok (.iload_n 1, 1) := by decide +kernel
theorem dX4_letHoursPass_6 : decode cX4_letHoursPass 6 = .ok (.if_icmp .ge 45, 3) := by decide +kernel
theorem dX4_letHoursPass_9 : decode cX4_letHoursPass 9 = .ok (.aload_n 0, 1) := by decide +kernel
theorem dX4_letHoursPass_10 : decode cX4_letHoursPass 10 = .ok (.dup, 1) := by decide +kernel
theorem dX4_letHoursPass_11 : decode cX4_letHoursPass 11 = .ok (.getfield 46, 3) := by decide +kernel
theorem dX4_letHoursPass_14 : decode cX4_letHoursPass 14 = .ok (.iconst 1, 1) := by decide +kernel
theorem dX4_letHoursPass_15 : decode cX4_letHoursPass 15 = .ok (.iadd, 1) := by decide +kernel
theorem dX4_letHoursPass_16 : decode cX4_letHoursPass 16 = .ok (.putfield 46, 3) := by decide +kernel
theorem dX4_letHoursPass_19 : decode cX4_letHoursPass 19 = .ok (.aload_n 0, 1) := by decide +kernel
theorem dX4_letHoursPass_20 : decode cX4_letHoursPass 20 = .ok (.getfield 28, 3) := by decide +kernel
theorem dX4_letHoursPass_23 : decode cX4_letHoursPass 23 = .ok (.aload_n 0, 1) := by decide +kernel
theorem dX4_letHoursPass_24 : decode cX4_letHoursPass 24 = .ok (.getfield 46, 3) := by decide +kernel
theorem dX4_letHoursPass_27 : decode cX4_letHoursPass 27 = .ok (.invokevirtual 214, 3) := by decide +kernel
theorem dX4_letHoursPass_30 : decode cX4_letHoursPass 30 = .ok (.aload_n 0, 1) := by decide +kernel
theorem dX4_letHoursPass_31 : decode cX4_letHoursPass 31 = .ok (.invokevirtual 218, 3) := by decide +kernel
theorem dX4_letHoursPass_34 : decode cX4_letHoursPass 34 = .ok (.iload_n 2, 1) := by decide +kernel
theorem dX4_letHoursPass_35 : decode cX4_letHoursPass 35 = .ok (.aload_n 0, 1) := by decide +kernel
theorem dX4_letHoursPass_36 : decode cX4_letHoursPass 36 = .ok (.invokevirtual 221, 3) := by decide +kernel
theorem dX4_letHoursPass_39 : decode cX4_letHoursPass 39 = .ok (.iadd, 1) := by decide +kernel
theorem dX4_letHoursPass_40 : decode cX4_letHoursPass 40 = .ok (.istore_n 2, 1) := by decide +kernel
theorem dX4_letHoursPass_41 : decode cX4_letHoursPass 41 = .ok (.aload_n 0, 1) := by decide +kernel
theorem dX4_letHoursPass_42 : decode cX4_letHoursPass 42 = .ok (.invokevirtual 225, 3) := by decide +kernel
theorem dX4_letHoursPass_45 : decode cX4_letHoursPass 45 = .ok (.iinc 3 1, 3) := by decide +kernel
theorem dX4_letHoursPass_48 : decode cX4_letHoursPass 48 = .ok (.goto (-44), 3) := by decide +kernel
theorem dX4_letHoursPass_51 : decode cX4_letHoursPass 51 = .ok (.iload_n 2, 1) := by decide +kernel
theorem dX4_letHoursPass_52 : decode cX4_letHoursPass 52 = .ok (.ireturn, 1) := by decide +kernel
theorem dX4_groundBecalmedKites_0 : decode cX4_groundBecalmedKites 0 = .ok (.iconst 0, 1) := by decide +kernel
theorem dX4_groundBecalmedKites_1 : decode cX4_groundBecalmedKites 1 = .ok (.istore_n 1, 1) := by decide +kernel
theorem dX4_groundBecalmedKites_2 : decode cX4_groundBecalmedKites 2 = .ok (.iload_n 1, 1) := by decide +kernel
theorem dX4_groundBecalmedKites_3 : decode cX4_groundBecalmedKites 3 = .ok (.aload_n 0, 1) := by decide +kernel
theorem dX4_groundBecalmedKites_4 : decode cX4_groundBecalmedKites 4 = .ok (.getfield 21, 3) := by decide +kernel
theorem dX4_groundBecalmedKites_7 : decode cX4_groundBecalmedKites 7 = .ok (.getfield 62, 3) := by decide +kernel
theorem dX4_groundBecalmedKites_10 : decode cX4_groundBecalmedKites 10 = .ok (.if_icmp .ge 44, 3) := by decide +kernel
theorem dX4_groundBecalmedKites_13 : decode cX4_groundBecalmedKites 13 = .ok (.aload_n 0, 1) := by decide +kernel
theorem dX4_groundBecalmedKites_14 : decode cX4_groundBecalmedKites 14 = .ok (.getfield 21, 3) := by decide +kernel
theorem dX4_groundBecalmedKites_17 : decode cX4_groundBecalmedKites 17 = .ok (.getfield 95, 3) := by decide +kernel
theorem dX4_groundBecalmedKites_20 : decode cX4_groundBecalmedKites 20 = .ok (.iload_n 1, 1) := by decide +kernel
theorem dX4_groundBecalmedKites_21 : decode cX4_groundBecalmedKites 21 = .ok (.iaload, 1) := by decide +kernel
theorem dX4_groundBecalmedKites_22 : decode cX4_groundBecalmedKites 22 = .ok (.iconst 1, 1) := by decide +kernel
theorem dX4_groundBecalmedKites_23 : decode cX4_groundBecalmedKites 23 = .ok (.if_icmp .ne 25, 3) := by decide +kernel
theorem dX4_groundBecalmedKites_26 : decode cX4_groundBecalmedKites 26 = .ok (.aload_n 0, 1) := by decide +kernel
theorem dX4_groundBecalmedKites_27 : decode cX4_groundBecalmedKites 27 = .ok (.iload_n 1, 1) := by decide +kernel
theorem dX4_groundBecalmedKites_28 : decode cX4_groundBecalmedKites 28 = .ok (.aload_n 0, 1) := by decide +kernel
theorem dX4_groundBecalmedKites_29 : decode cX4_groundBecalmedKites 29 = .ok (.getfield 46, 3) := by decide +kernel
theorem dX4_groundBecalmedKites_32 : decode cX4_groundBecalmedKites 32 = .ok (.invokevirtual 187, 3) := by decide +kernel
theorem dX4_groundBecalmedKites_35 : decode cX4_groundBecalmedKites 35 = .ok (.ifCond .ne 13, 3) := by decide +kernel
theorem dX4_groundBecalmedKites_38 : decode cX4_groundBecalmedKites 38 = .ok (.aload_n 0, 1) := by decide +kernel
theorem dX4_groundBecalmedKites_39 : decode cX4_groundBecalmedKites 39 = .ok (.getfield 21, 3) := by decide +kernel
theorem dX4_groundBecalmedKites_42 : decode cX4_groundBecalmedKites 42 = .ok (.getfield 95, 3) := by decide +kernel
theorem dX4_groundBecalmedKites_45 : decode cX4_groundBecalmedKites 45 = .ok (.iload_n 1, 1) := by decide +kernel
theorem dX4_groundBecalmedKites_46 : decode cX4_groundBecalmedKites 46 = .ok (.iconst 0, 1) := by decide +kernel
theorem dX4_groundBecalmedKites_47 : decode cX4_groundBecalmedKites 47 = .ok (.iastore, 1) := by decide +kernel
theorem dX4_groundBecalmedKites_48 : decode cX4_groundBecalmedKites 48 = .ok (.iinc 1 1, 3) := by decide +kernel
theorem dX4_groundBecalmedKites_51 : decode cX4_groundBecalmedKites 51 = .ok (.goto (-49), 3) := by decide +kernel
theorem dX4_groundBecalmedKites_54 : decode cX4_groundBecalmedKites 54 = .ok (.return_, 1) := by decide +kernel
theorem dX4_judgeCrossings_0 : decode cX4_judgeCrossings 0 = .ok (.iconst 0, 1) := by decide +kernel
theorem dX4_judgeCrossings_1 : decode cX4_judgeCrossings 1 = .ok (.istore_n 1, 1) := by decide +kernel
theorem dX4_judgeCrossings_2 : decode cX4_judgeCrossings 2 = .ok (.iconst 0, 1) := by decide +kernel
theorem dX4_judgeCrossings_3 : decode cX4_judgeCrossings 3 = .ok (.istore_n 2, 1) := by decide +kernel
theorem dX4_judgeCrossings_4 : decode cX4_judgeCrossings 4 = .ok (.iload_n 2, 1) := by decide +kernel
theorem dX4_judgeCrossings_5 : decode cX4_judgeCrossings 5 = .ok (.aload_n 0, 1) := by decide +kernel
theorem dX4_judgeCrossings_6 : decode cX4_judgeCrossings 6 = .ok (.getfield 21, 3) := by decide +kernel
theorem dX4_judgeCrossings_9 : decode cX4_judgeCrossings 9 = .ok (.getfield 62, 3) := by decide +kernel
theorem dX4_judgeCrossings_12 : decode cX4_judgeCrossings 12 = .ok (.if_icmp .ge 90, 3) := by decide +kernel
theorem dX4_judgeCrossings_15 : decode cX4_judgeCrossings 15 = .ok (.iload_n 2, 1) := by decide +kernel
theorem dX4_judgeCrossings_16 : decode cX4_judgeCrossings 16 = .ok (.iconst 1, 1) := by decide +kernel
theorem dX4_judgeCrossings_17 : decode cX4_judgeCrossings 17 = .ok (.iadd, 1) := by decide +kernel
theorem dX4_judgeCrossings_18 : decode cX4_judgeCrossings 18 = .ok (.istore_n 3, 1) := by decide +kernel
theorem dX4_judgeCrossings_19 : decode cX4_judgeCrossings 19 = .ok (.iload_n 3, 1) := by decide +kernel
theorem dX4_judgeCrossings_20 : decode cX4_judgeCrossings 20 = .ok (.aload_n 0, 1) := by decide +kernel
theorem dX4_judgeCrossings_21 : decode cX4_judgeCrossings 21 = .ok (.getfield 21, 3) := by decide +kernel
theorem dX4_judgeCrossings_24 : decode cX4_judgeCrossings 24 = .ok (.getfield 62, 3) := by decide +kernel
theorem dX4_judgeCrossings_27 : decode cX4_judgeCrossings 27 = .ok (.if_icmp .ge 69, 3) := by decide +kernel
theorem dX4_judgeCrossings_30 : decode cX4_judgeCrossings 30 = .ok (.aload_n 0, 1) := by decide +kernel
theorem dX4_judgeCrossings_31 : decode cX4_judgeCrossings 31 = .ok (.getfield 21, 3) := by decide +kernel
theorem dX4_judgeCrossings_34 : decode cX4_judgeCrossings 34 = .ok (.getfield 95, 3) := by decide +kernel
theorem dX4_judgeCrossings_37 : decode cX4_judgeCrossings 37 = .ok (.iload_n 2, 1) := by decide +kernel
theorem dX4_judgeCrossings_38 : decode cX4_judgeCrossings 38 = .ok (.iaload, 1) := by decide +kernel
theorem dX4_judgeCrossings_39 : decode cX4_judgeCrossings 39 = .ok (.iconst 1, 1) := by decide +kernel
theorem dX4_judgeCrossings_40 : decode cX4_judgeCrossings 40 = .ok (.if_icmp .ne 20, 3) := by decide +kernel
theorem dX4_judgeCrossings_43 : decode cX4_judgeCrossings 43 = .ok (.aload_n 0, 1) := by decide +kernel
theorem dX4_judgeCrossings_44 : decode cX4_judgeCrossings 44 = .ok (.getfield 21, 3) := by decide +kernel
theorem dX4_judgeCrossings_47 : decode cX4_judgeCrossings 47 = .ok (.getfield 95, 3) := by decide +kernel
theorem dX4_judgeCrossings_50 : decode cX4_judgeCrossings 50 = .ok (.iload_n 3, 1) := by decide +kernel
theorem dX4_judgeCrossings_51 : decode cX4_judgeCrossings 51 = .ok (.iaload, 1) := by decide +kernel
theorem dX4_judgeCrossings_52 : decode cX4_judgeCrossings 52 = .ok (.iconst 1, 1) := by decide +kernel
theorem dX4_judgeCrossings_53 : decode cX4_judgeCrossings 53 = .ok (.if_icmp .ne 7, 3) := by decide +kernel
theorem dX4_judgeCrossings_56 : decode cX4_judgeCrossings 56 = .ok (.iconst 1, 1) := by decide +kernel
theorem dX4_judgeCrossings_57 : decode cX4_judgeCrossings 57 = .ok (.goto 4, 3) := by decide +kernel
theorem dX4_judgeCrossings_60 : decode cX4_judgeCrossings 60 = .ok (.iconst 0, 1) := by decide +kernel
theorem dX4_judgeCrossings_61 : decode cX4_judgeCrossings 61 = .ok (.istore 4, 2) := by decide +kernel
theorem dX4_judgeCrossings_63 : decode cX4_judgeCrossings 63 = .ok (.iload 4, 2) := by decide +kernel
theorem dX4_judgeCrossings_65 : decode cX4_judgeCrossings 65 = .ok (.ifCond .eq 25, 3) := by decide +kernel
theorem dX4_judgeCrossings_68 : decode cX4_judgeCrossings 68 = .ok (.aload_n 0, 1) := by decide +kernel
theorem dX4_judgeCrossings_69 : decode cX4_judgeCrossings 69 = .ok (.iload_n 2, 1) := by decide +kernel
theorem dX4_judgeCrossings_70 : decode cX4_judgeCrossings 70 = .ok (.iload_n 3, 1) := by decide +kernel
theorem dX4_judgeCrossings_71 : decode cX4_judgeCrossings 71 = .ok (.aload_n 0, 1) := by decide +kernel
theorem dX4_judgeCrossings_72 : decode cX4_judgeCrossings 72 = .ok (.getfield 46, 3) := by decide +kernel
theorem dX4_judgeCrossings_75 : decode cX4_judgeCrossings 75 = .ok (.invokevirtual 200, 3) := by decide +kernel
theorem dX4_judgeCrossings_78 : decode cX4_judgeCrossings 78 = .ok (.ifCond .eq 12, 3) := by decide +kernel
theorem dX4_judgeCrossings_81 : decode cX4_judgeCrossings 81 = .ok (.aload_n 0, 1) := by decide +kernel
theorem dX4_judgeCrossings_82 : decode cX4_judgeCrossings 82 = .ok (.iload_n 2, 1) := by decide +kernel
theorem dX4_judgeCrossings_83 : decode cX4_judgeCrossings 83 = .ok (.iload_n 3, 1) := by decide +kernel
theorem dX4_judgeCrossings_84 : decode cX4_judgeCrossings 84 = .ok (.invokevirtual 228, 3) := by decide +kernel
theorem dX4_judgeCrossings_87 : decode cX4_judgeCrossings 87 = .ok (.iinc 1 1, 3) := by decide +kernel
theorem dX4_judgeCrossings_90 : decode cX4_judgeCrossings 90 = .ok (.iinc 3 1, 3) := by decide +kernel
theorem dX4_judgeCrossings_93 : decode cX4_judgeCrossings 93 = .ok (.goto (-74), 3) := by decide +kernel
theorem dX4_judgeCrossings_96 : decode cX4_judgeCrossings 96 = .ok (.iinc 2 1, 3) := by decide +kernel
theorem dX4_judgeCrossings_99 : decode cX4_judgeCrossings 99 = .ok (.goto (-95), 3) := by decide +kernel
theorem dX4_judgeCrossings_102 : decode cX4_judgeCrossings 102 = .ok (.iload_n 1, 1) := by decide +kernel
theorem dX4_judgeCrossings_103 : decode cX4_judgeCrossings 103 = .ok (.ireturn, 1) := by decide +kernel
theorem dX4_giveVerdict_0 : decode cX4_giveVerdict 0 = .ok (.aload_n 0, 1) := by decide +kernel
theorem dX4_giveVerdict_1 : decode cX4_giveVerdict 1 = .ok (.iload_n 1, 1) := by decide +kernel
theorem dX4_giveVerdict_2 : decode cX4_giveVerdict 2 = .ok (.iload_n 2, 1) := by decide +kernel
theorem dX4_giveVerdict_3 : decode cX4_giveVerdict 3 = .ok (.invokevirtual 231, 3) := by decide +kernel
theorem dX4_giveVerdict_6 : decode cX4_giveVerdict 6 = .ok (.istore_n 3, 1) := by decide +kernel
theorem dX4_giveVerdict_7 : decode cX4_giveVerdict 7 = .ok (.iload_n 3, 1) := by decide +kernel
theorem dX4_giveVerdict_8 : decode cX4_giveVerdict 8 = .ok (.iload_n 1, 1) := by decide +kernel
theorem dX4_giveVerdict_9 : decode cX4_giveVerdict 9 = .ok (.if_icmp .ne 7, 3) := by decide +kernel
theorem dX4_giveVerdict_12 : decode cX4_giveVerdict 12 = .ok (.iload_n 2, 1) := by decide +kernel
theorem dX4_giveVerdict_13 : decode cX4_giveVerdict 13 = .ok (.goto 4, 3) := by decide +kernel
theorem dX4_giveVerdict_16 : decode cX4_giveVerdict 16 = .ok (.iload_n 1, 1) := by decide +kernel
theorem dX4_giveVerdict_17 : decode cX4_giveVerdict 17 = .ok (.istore 4, 2) := by decide +kernel
theorem dX4_giveVerdict_19 : decode cX4_giveVerdict 19 = .ok (.aload_n 0, 1) := by decide +kernel
theorem dX4_giveVerdict_20 : decode cX4_giveVerdict 20 = .ok (.getfield 12, 3) := by decide +kernel
theorem dX4_giveVerdict_23 : decode cX4_giveVerdict 23 = .ok (.getfield 234, 3) := by decide +kernel
theorem dX4_giveVerdict_26 : decode cX4_giveVerdict 26 = .ok (.aload_n 0, 1) := by decide +kernel
theorem dX4_giveVerdict_27 : decode cX4_giveVerdict 27 = .ok (.getfield 21, 3) := by decide +kernel
theorem dX4_giveVerdict_30 : decode cX4_giveVerdict 30 = .ok (.getfield 92, 3) := by decide +kernel
theorem dX4_giveVerdict_33 : decode cX4_giveVerdict 33 = .ok (.iload_n 3, 1) := by decide +kernel
theorem dX4_giveVerdict_34 : decode cX4_giveVerdict 34 = .ok (.iaload, 1) := by decide +kernel
theorem dX4_giveVerdict_35 : decode cX4_giveVerdict 35 = .ok (.invokestatic 111, 3) := by decide +kernel
theorem dX4_giveVerdict_38 : decode cX4_giveVerdict 38 = .ok (.istore 5, 2) := by decide +kernel
theorem dX4_giveVerdict_40 : decode cX4_giveVerdict 40 = .ok (.aload_n 0, 1) := by decide +kernel
theorem dX4_giveVerdict_41 : decode cX4_giveVerdict 41 = .ok (.getfield 21, 3) := by decide +kernel
theorem dX4_giveVerdict_44 : decode cX4_giveVerdict 44 = .ok (.getfield 92, 3) := by decide +kernel
theorem dX4_giveVerdict_47 : decode cX4_giveVerdict 47 = .ok (.iload_n 3, 1) := by decide +kernel
theorem dX4_giveVerdict_48 : decode cX4_giveVerdict 48 = .ok (.dup2, 1) := by decide +kernel
theorem dX4_giveVerdict_49 : decode cX4_giveVerdict 49 = .ok (.iaload, 1) := by decide +kernel
theorem dX4_giveVerdict_50 : decode cX4_giveVerdict 50 = .ok (.iload 5, 2) := by decide +kernel
theorem dX4_giveVerdict_52 : decode cX4_giveVerdict 52 = .ok (.isub, 1) := by decide +kernel
theorem dX4_giveVerdict_53 : decode cX4_giveVerdict 53 = .ok (.iastore, 1) := by decide +kernel
theorem dX4_giveVerdict_54 : decode cX4_giveVerdict 54 = .ok (.aload_n 0, 1) := by decide +kernel
theorem dX4_giveVerdict_55 : decode cX4_giveVerdict 55 = .ok (.getfield 21, 3) := by decide +kernel
theorem dX4_giveVerdict_58 : decode cX4_giveVerdict 58 = .ok (.getfield 92, 3) := by decide +kernel
theorem dX4_giveVerdict_61 : decode cX4_giveVerdict 61 = .ok (.iload 4, 2) := by decide +kernel
theorem dX4_giveVerdict_63 : decode cX4_giveVerdict 63 = .ok (.dup2, 1) := by decide +kernel
theorem dX4_giveVerdict_64 : decode cX4_giveVerdict 64 = .ok (.iaload, 1) := by decide +kernel
theorem dX4_giveVerdict_65 : decode cX4_giveVerdict 65 = .ok (.iload 5, 2) := by decide +kernel
theorem dX4_giveVerdict_67 : decode cX4_giveVerdict 67 = .ok (.iadd, 1) := by decide +kernel
theorem dX4_giveVerdict_68 : decode cX4_giveVerdict 68 = .ok (.iastore, 1) := by decide +kernel
theorem dX4_giveVerdict_69 : decode cX4_giveVerdict 69 = .ok (.aload_n 0, 1) := by decide +kernel
theorem dX4_giveVerdict_70 : decode cX4_giveVerdict 70 = .ok (.getfield 21, 3) := by decide +kernel
theorem dX4_giveVerdict_73 : decode cX4_giveVerdict 73 = .ok (.getfield 101, 3) := by decide +kernel
theorem dX4_giveVerdict_76 : decode cX4_giveVerdict 76 = .ok (.iload_n 1, 1) := by decide +kernel
theorem dX4_giveVerdict_77 : decode cX4_giveVerdict 77 = .ok (.dup2, 1) := by decide +kernel
theorem dX4_giveVerdict_78 : decode cX4_giveVerdict 78 = .ok (.iaload, 1) := by decide +kernel
theorem dX4_giveVerdict_79 : decode cX4_giveVerdict 79 = .ok (.iconst 1, 1) := by decide +kernel
theorem dX4_giveVerdict_80 : decode cX4_giveVerdict 80 = .ok (.iadd, 1) := by decide +kernel
theorem dX4_giveVerdict_81 : decode cX4_giveVerdict 81 = .ok (.iastore, 1) := by decide +kernel
theorem dX4_giveVerdict_82 : decode cX4_giveVerdict 82 = .ok (.aload_n 0, 1) := by decide +kernel
theorem dX4_giveVerdict_83 : decode cX4_giveVerdict 83 = .ok (.getfield 21, 3) := by decide +kernel
theorem dX4_giveVerdict_86 : decode cX4_giveVerdict 86 = .ok (.getfield 101, 3) := by decide +kernel
theorem dX4_giveVerdict_89 : decode cX4_giveVerdict 89 = .ok (.iload_n 2, 1) := by decide +kernel
theorem dX4_giveVerdict_90 : decode cX4_giveVerdict 90 = .ok (.dup2, 1) := by decide +kernel
theorem dX4_giveVerdict_91 : decode cX4_giveVerdict 91 = .ok (.iaload, 1) := by decide +kernel
theorem dX4_giveVerdict_92 : decode cX4_giveVerdict 92 = .ok (.iconst 1, 1) := by decide +kernel
theorem dX4_giveVerdict_93 : decode cX4_giveVerdict 93 = .ok (.iadd, 1) := by decide +kernel
theorem dX4_giveVerdict_94 : decode cX4_giveVerdict 94 = .ok (.iastore, 1) := by decide +kernel
theorem dX4_giveVerdict_95 : decode cX4_giveVerdict 95 = .ok (.aload_n 0, 1) := by decide +kernel
theorem dX4_giveVerdict_96 : decode cX4_giveVerdict 96 = .ok (.getfield 32, 3) := by decide +kernel
theorem dX4_giveVerdict_99 : decode cX4_giveVerdict 99 = .ok (.iload_n 1, 1) := by decide +kernel
theorem dX4_giveVerdict_100 : decode cX4_giveVerdict 100 = .ok (.iconst 1, 1) := by decide +kernel
theorem dX4_giveVerdict_101 : decode cX4_giveVerdict 101 = .ok (.bastore, 1) := by decide +kernel
theorem dX4_giveVerdict_102 : decode cX4_giveVerdict 102 = .ok (.aload_n 0, 1) := by decide +kernel
theorem dX4_giveVerdict_103 : decode cX4_giveVerdict 103 = .ok (.getfield 32, 3) := by decide +kernel
theorem dX4_giveVerdict_106 : decode cX4_giveVerdict 106 = .ok (.iload_n 2, 1) := by decide +kernel
theorem dX4_giveVerdict_107 : decode cX4_giveVerdict 107 = .ok (.iconst 1, 1) := by decide +kernel
theorem dX4_giveVerdict_108 : decode cX4_giveVerdict 108 = .ok (.bastore, 1) := by decide +kernel
theorem dX4_giveVerdict_109 : decode cX4_giveVerdict 109 = .ok (.return_, 1) := by decide +kernel
theorem dX4_guiltyOf_0 : decode cX4_guiltyOf 0 = .ok (.aload_n 0, 1) := by decide +kernel
theorem dX4_guiltyOf_1 : decode cX4_guiltyOf 1 = .ok (.getfield 28, 3) := by decide +kernel
theorem dX4_guiltyOf_4 : decode cX4_guiltyOf 4 = .ok (.iload_n 1, 1) := by decide +kernel
theorem dX4_guiltyOf_5 : decode cX4_guiltyOf 5 = .ok (.aload_n 0, 1) := by decide +kernel
theorem dX4_guiltyOf_6 : decode cX4_guiltyOf 6 = .ok (.getfield 46, 3) := by decide +kernel
theorem dX4_guiltyOf_9 : decode cX4_guiltyOf 9 = .ok (.aload_n 0, 1) := by decide +kernel
theorem dX4_guiltyOf_10 : decode cX4_guiltyOf 10 = .ok (.getfield 46, 3) := by decide +kernel
theorem dX4_guiltyOf_13 : decode cX4_guiltyOf 13 = .ok (.iconst 1, 1) := by decide +kernel
theorem dX4_guiltyOf_14 : decode cX4_guiltyOf 14 = .ok (.iadd, 1) := by decide +kernel
theorem dX4_guiltyOf_15 : decode cX4_guiltyOf 15 = .ok (.invokevirtual 166, 3) := by decide +kernel
theorem dX4_guiltyOf_18 : decode cX4_guiltyOf 18 = .ok (.istore_n 3, 1) := by decide +kernel
theorem dX4_guiltyOf_19 : decode cX4_guiltyOf 19 = .ok (.aload_n 0, 1) := by decide +kernel
theorem dX4_guiltyOf_20 : decode cX4_guiltyOf 20 = .ok (.getfield 28, 3) := by decide +kernel
theorem dX4_guiltyOf_23 : decode cX4_guiltyOf 23 = .ok (.iload_n 2, 1) := by decide +kernel
theorem dX4_guiltyOf_24 : decode cX4_guiltyOf 24 = .ok (.aload_n 0, 1) := by decide +kernel
theorem dX4_guiltyOf_25 : decode cX4_guiltyOf 25 = .ok (.getfield 46, 3) := by decide +kernel
theorem dX4_guiltyOf_28 : decode cX4_guiltyOf 28 = .ok (.aload_n 0, 1) := by decide +kernel
theorem dX4_guiltyOf_29 : decode cX4_guiltyOf 29 = .ok (.getfield 46, 3) := by decide +kernel
theorem dX4_guiltyOf_32 : decode cX4_guiltyOf 32 = .ok (.iconst 1, 1) := by decide +kernel
theorem dX4_guiltyOf_33 : decode cX4_guiltyOf 33 = .ok (.iadd, 1) := by decide +kernel
theorem dX4_guiltyOf_34 : decode cX4_guiltyOf 34 = .ok (.invokevirtual 166, 3) := by decide +kernel
theorem dX4_guiltyOf_37 : decode cX4_guiltyOf 37 = .ok (.istore 4, 2) := by decide +kernel
theorem dX4_guiltyOf_39 : decode cX4_guiltyOf 39 = .ok (.iload_n 3, 1) := by decide +kernel
theorem dX4_guiltyOf_40 : decode cX4_guiltyOf 40 = .ok (.iload 4, 2) := by decide +kernel
theorem dX4_guiltyOf_42 : decode cX4_guiltyOf 42 = .ok (.if_icmp .eq 13, 3) := by decide +kernel
theorem dX4_guiltyOf_45 : decode cX4_guiltyOf 45 = .ok (.iload_n 3, 1) := by decide +kernel
theorem dX4_guiltyOf_46 : decode cX4_guiltyOf 46 = .ok (.ifCond .eq 7, 3) := by decide +kernel
theorem dX4_guiltyOf_49 : decode cX4_guiltyOf 49 = .ok (.iload_n 2, 1) := by decide +kernel
theorem dX4_guiltyOf_50 : decode cX4_guiltyOf 50 = .ok (.goto 4, 3) := by decide +kernel
theorem dX4_guiltyOf_53 : decode cX4_guiltyOf 53 = .ok (.iload_n 1, 1) := by decide +kernel
theorem dX4_guiltyOf_54 : decode cX4_guiltyOf 54 = .ok (.ireturn, 1) := by decide +kernel
theorem dX4_guiltyOf_55 : decode cX4_guiltyOf 55 = .ok (.aload_n 0, 1) := by decide +kernel
theorem dX4_guiltyOf_56 : decode cX4_guiltyOf 56 = .ok (.getfield 21, 3) := by decide +kernel
theorem dX4_guiltyOf_59 : decode cX4_guiltyOf 59 = .ok (.getfield 98, 3) := by decide +kernel
theorem dX4_guiltyOf_62 : decode cX4_guiltyOf 62 = .ok (.iload_n 1, 1) := by decide +kernel
theorem dX4_guiltyOf_63 : decode cX4_guiltyOf 63 = .ok (.iaload, 1) := by decide +kernel
theorem dX4_guiltyOf_64 : decode cX4_guiltyOf 64 = .ok (.aload_n 0, 1) := by decide +kernel
theorem dX4_guiltyOf_65 : decode cX4_guiltyOf 65 = .ok (.getfield 21, 3) := by decide +kernel
theorem dX4_guiltyOf_68 : decode cX4_guiltyOf 68 = .ok (.getfield 98, 3) := by decide +kernel
theorem dX4_guiltyOf_71 : decode cX4_guiltyOf 71 = .ok (.iload_n 2, 1) := by decide +kernel
theorem dX4_guiltyOf_72 : decode cX4_guiltyOf 72 = .ok (.iaload, 1) := by decide +kernel
theorem dX4_guiltyOf_73 : decode cX4_guiltyOf 73 = .ok (.if_icmp .le 7, 3) := by decide +kernel
theorem dX4_guiltyOf_76 : decode cX4_guiltyOf 76 = .ok (.iload_n 1, 1) := by decide +kernel
theorem dX4_guiltyOf_77 : decode cX4_guiltyOf 77 = .ok (.goto 4, 3) := by decide +kernel
theorem dX4_guiltyOf_80 : decode cX4_guiltyOf 80 = .ok (.iload_n 2, 1) := by decide +kernel
theorem dX4_guiltyOf_81 : decode cX4_guiltyOf 81 = .ok (.ireturn, 1) := by decide +kernel
theorem dX4_tangleCaughtKites_0 : decode cX4_tangleCaughtKites 0 = .ok (.iconst 0, 1) := by decide +kernel
theorem dX4_tangleCaughtKites_1 : decode cX4_tangleCaughtKites 1 = .ok (.istore_n 1, 1) := by decide +kernel
theorem dX4_tangleCaughtKites_2 : decode cX4_tangleCaughtKites 2 = .ok (.iload_n 1, 1) := by decide +kernel
theorem dX4_tangleCaughtKites_3 : decode cX4_tangleCaughtKites 3 = .ok (.aload_n 0, 1) := by decide +kernel
theorem dX4_tangleCaughtKites_4 : decode cX4_tangleCaughtKites 4 = .ok (.getfield 21, 3) := by decide +kernel
theorem dX4_tangleCaughtKites_7 : decode cX4_tangleCaughtKites 7 = .ok (.getfield 62, 3) := by decide +kernel
theorem dX4_tangleCaughtKites_10 : decode cX4_tangleCaughtKites 10 = .ok (.if_icmp .ge 35, 3) := by decide +kernel
theorem dX4_tangleCaughtKites_13 : decode cX4_tangleCaughtKites 13 = .ok (.aload_n 0, 1) := by decide +kernel
theorem dX4_tangleCaughtKites_14 : decode cX4_tangleCaughtKites 14 = .ok (.getfield 32, 3) := by decide +kernel
theorem dX4_tangleCaughtKites_17 : decode cX4_tangleCaughtKites 17 = .ok (.iload_n 1, 1) := by decide +kernel
theorem dX4_tangleCaughtKites_18 : decode cX4_tangleCaughtKites 18 = .ok (.baload, 1) := by decide +kernel
theorem dX4_tangleCaughtKites_19 : decode cX4_tangleCaughtKites 19 = .ok (.ifCond .eq 20, 3) := by decide +kernel
theorem dX4_tangleCaughtKites_22 : decode cX4_tangleCaughtKites 22 = .ok (.aload_n 0, 1) := by decide +kernel
theorem dX4_tangleCaughtKites_23 : decode cX4_tangleCaughtKites 23 = .ok (.getfield 21, 3) := by decide +kernel
theorem dX4_tangleCaughtKites_26 : decode cX4_tangleCaughtKites 26 = .ok (.getfield 95, 3) := by decide +kernel
theorem dX4_tangleCaughtKites_29 : decode cX4_tangleCaughtKites 29 = .ok (.iload_n 1, 1) := by decide +kernel
theorem dX4_tangleCaughtKites_30 : decode cX4_tangleCaughtKites 30 = .ok (.iconst 2, 1) := by decide +kernel
theorem dX4_tangleCaughtKites_31 : decode cX4_tangleCaughtKites 31 = .ok (.iastore, 1) := by decide +kernel
theorem dX4_tangleCaughtKites_32 : decode cX4_tangleCaughtKites 32 = .ok (.aload_n 0, 1) := by decide +kernel
theorem dX4_tangleCaughtKites_33 : decode cX4_tangleCaughtKites 33 = .ok (.getfield 32, 3) := by decide +kernel
theorem dX4_tangleCaughtKites_36 : decode cX4_tangleCaughtKites 36 = .ok (.iload_n 1, 1) := by decide +kernel
theorem dX4_tangleCaughtKites_37 : decode cX4_tangleCaughtKites 37 = .ok (.iconst 0, 1) := by decide +kernel
theorem dX4_tangleCaughtKites_38 : decode cX4_tangleCaughtKites 38 = .ok (.bastore, 1) := by decide +kernel
theorem dX4_tangleCaughtKites_39 : decode cX4_tangleCaughtKites 39 = .ok (.iinc 1 1, 3) := by decide +kernel
theorem dX4_tangleCaughtKites_42 : decode cX4_tangleCaughtKites 42 = .ok (.goto (-40), 3) := by decide +kernel
theorem dX4_tangleCaughtKites_45 : decode cX4_tangleCaughtKites 45 = .ok (.return_, 1) := by decide +kernel
theorem dX4_retie_0 : decode cX4_retie 0 = .ok (.aload_n 0, 1) := by decide +kernel
theorem dX4_retie_1 : decode cX4_retie 1 = .ok (.getfield 21, 3) := by decide +kernel
theorem dX4_retie_4 : decode cX4_retie 4 = .ok (.getfield 89, 3) := by decide +kernel
theorem dX4_retie_7 : decode cX4_retie 7 = .ok (.iload_n 1, 1) := by decide +kernel
theorem dX4_retie_8 : decode cX4_retie 8 = .ok (.iload_n 2, 1) := by decide +kernel
theorem dX4_retie_9 : decode cX4_retie 9 = .ok (.iastore, 1) := by decide +kernel
theorem dX4_retie_10 : decode cX4_retie 10 = .ok (.aload_n 0, 1) := by decide +kernel
theorem dX4_retie_11 : decode cX4_retie 11 = .ok (.getfield 28, 3) := by decide +kernel
theorem dX4_retie_14 : decode cX4_retie 14 = .ok (.iload_n 1, 1) := by decide +kernel
theorem dX4_retie_15 : decode cX4_retie 15 = .ok (.invokevirtual 237, 3) := by decide +kernel
theorem dX4_retie_18 : decode cX4_retie 18 = .ok (.pop, 1) := by decide +kernel
theorem dX4_retie_19 : decode cX4_retie 19 = .ok (.return_, 1) := by decide +kernel
theorem dX4_repairPrice_0 : decode cX4_repairPrice 0 = .ok (.iconst 2, 1) := by decide +kernel
theorem dX4_repairPrice_1 : decode cX4_repairPrice 1 = .ok (.aload_n 0, 1) := by decide +kernel
theorem dX4_repairPrice_2 : decode cX4_repairPrice 2 = .ok (.getfield 21, 3) := by decide +kernel
theorem dX4_repairPrice_5 : decode cX4_repairPrice 5 = .ok (.getfield 89, 3) := by decide +kernel
theorem dX4_repairPrice_8 : decode cX4_repairPrice 8 = .ok (.iload_n 1, 1) := by decide +kernel
theorem dX4_repairPrice_9 : decode cX4_repairPrice 9 = .ok (.iaload, 1) := by decide +kernel
theorem dX4_repairPrice_10 : decode cX4_repairPrice 10 = .ok (.imul, 1) := by decide +kernel
theorem dX4_repairPrice_11 : decode cX4_repairPrice 11 = .ok (.ireturn, 1) := by decide +kernel
theorem dX4_isRepairable_0 : decode cX4_isRepairable 0 = .ok (.aload_n 0, 1) := by decide +kernel
theorem dX4_isRepairable_1 : decode cX4_isRepairable 1 = .ok (.getfield 21, 3) := by decide +kernel
theorem dX4_isRepairable_4 : decode cX4_isRepairable 4 = .ok (.getfield 95, 3) := by decide +kernel
theorem dX4_isRepairable_7 : decode cX4_isRepairable 7 = .ok (.iload_n 1, 1) := by decide +kernel
theorem dX4_isRepairable_8 : decode cX4_isRepairable 8 = .ok (.iaload, 1) := by decide +kernel
theorem dX4_isRepairable_9 : decode cX4_isRepairable 9 = .ok (.iconst 2, 1) := by decide +kernel
theorem dX4_isRepairable_10 : decode cX4_isRepairable 10 = .ok (.if_icmp .ne 24, 3) := by decide +kernel
theorem dX4_isRepairable_13 : decode cX4_isRepairable 13 = .ok (.aload_n 0, 1) := by decide +kernel
theorem dX4_isRepairable_14 : decode cX4_isRepairable 14 = .ok (.getfield 21, 3) := by decide +kernel
theorem dX4_isRepairable_17 : decode cX4_isRepairable 17 = .ok (.getfield 92, 3) := by decide +kernel
theorem dX4_isRepairable_20 : decode cX4_isRepairable 20 = .ok (.iload_n 1, 1) := by decide +kernel
theorem dX4_isRepairable_21 : decode cX4_isRepairable 21 = .ok (.iaload, 1) := by decide +kernel
theorem dX4_isRepairable_22 : decode cX4_isRepairable 22 = .ok (.aload_n 0, 1) := by decide +kernel
theorem dX4_isRepairable_23 : decode cX4_isRepairable 23 = .ok (.iload_n 1, 1) := by decide +kernel
theorem dX4_isRepairable_24 : decode cX4_isRepairable 24 = .ok (.invokevirtual 240, 3) := by decide +kernel
theorem dX4_isRepairable_27 : decode cX4_isRepairable 27 = .ok (.if_icmp .lt 7, 3) := by decide +kernel
theorem dX4_isRepairable_30 : decode cX4_isRepairable 30 = .ok (.iconst 1, 1) := by decide +kernel
theorem dX4_isRepairable_31 : decode cX4_isRepairable 31 = .ok (.goto 4, 3) := by decide +kernel
theorem dX4_isRepairable_34 : decode cX4_isRepairable 34 = .ok (.iconst 0, 1) := by decide +kernel
theorem dX4_isRepairable_35 : decode cX4_isRepairable 35 = .ok (.ireturn, 1) := by decide +kernel
theorem dX4_mend_0 : decode cX4_mend 0 = .ok (.aload_n 0, 1) := by decide +kernel
theorem dX4_mend_1 : decode cX4_mend 1 = .ok (.iload_n 1, 1) := by decide +kernel
theorem dX4_mend_2 : decode cX4_mend 2 = .ok (.aload_n 0, 1) := by decide +kernel
theorem dX4_mend_3 : decode cX4_mend 3 = .ok (.iload_n 1, 1) := by decide +kernel
theorem dX4_mend_4 : decode cX4_mend 4 = .ok (.invokevirtual 240, 3) := by decide +kernel
theorem dX4_mend_7 : decode cX4_mend 7 = .ok (.invokevirtual 203, 3) := by decide +kernel
theorem dX4_mend_10 : decode cX4_mend 10 = .ok (.aload_n 0, 1) := by decide +kernel
theorem dX4_mend_11 : decode cX4_mend 11 = .ok (.getfield 21, 3) := by decide +kernel
theorem dX4_mend_14 : decode cX4_mend 14 = .ok (.getfield 95, 3) := by decide +kernel
theorem dX4_mend_17 : decode cX4_mend 17 = .ok (.iload_n 1, 1) := by decide +kernel
theorem dX4_mend_18 : decode cX4_mend 18 = .ok (.iconst 0, 1) := by decide +kernel
theorem dX4_mend_19 : decode cX4_mend 19 = .ok (.iastore, 1) := by decide +kernel
theorem dX4_mend_20 : decode cX4_mend 20 = .ok (.return_, 1) := by decide +kernel
theorem dX4_putCoins_0 : decode cX4_putCoins 0 = .ok (.iconst 0, 1) := by decide +kernel
theorem dX4_putCoins_1 : decode cX4_putCoins 1 = .ok (.ldc 243, 2) := by decide +kernel
theorem dX4_putCoins_3 : decode cX4_putCoins 3 = .ok (.aload_n 0, 1) := by decide +kernel
theorem dX4_putCoins_4 : decode cX4_putCoins 4 = .ok (.getfield 21, 3) := by decide +kernel
theorem dX4_putCoins_7 : decode cX4_putCoins 7 = .ok (.getfield 92, 3) := by decide +kernel
theorem dX4_putCoins_10 : decode cX4_putCoins 10 = .ok (.iload_n 1, 1) := by decide +kernel
theorem dX4_putCoins_11 : decode cX4_putCoins 11 = .ok (.iaload, 1) := by decide +kernel
theorem dX4_putCoins_12 : decode cX4_putCoins 12 = .ok (.isub, 1) := by decide +kernel
theorem dX4_putCoins_13 : decode cX4_putCoins 13 = .ok (.invokestatic 157, 3) := by decide +kernel
theorem dX4_putCoins_16 : decode cX4_putCoins 16 = .ok (.istore_n 3, 1) := by decide +kernel
theorem dX4_putCoins_17 : decode cX4_putCoins 17 = .ok (.iload_n 2, 1) := by decide +kernel
theorem dX4_putCoins_18 : decode cX4_putCoins 18 = .ok (.iload_n 3, 1) := by decide +kernel
theorem dX4_putCoins_19 : decode cX4_putCoins 19 = .ok (.invokestatic 111, 3) := by decide +kernel
theorem dX4_putCoins_22 : decode cX4_putCoins 22 = .ok (.istore 4, 2) := by decide +kernel
theorem dX4_putCoins_24 : decode cX4_putCoins 24 = .ok (.aload_n 0, 1) := by decide +kernel
theorem dX4_putCoins_25 : decode cX4_putCoins 25 = .ok (.getfield 21, 3) := by decide +kernel
theorem dX4_putCoins_28 : decode cX4_putCoins 28 = .ok (.getfield 92, 3) := by decide +kernel
theorem dX4_putCoins_31 : decode cX4_putCoins 31 = .ok (.iload_n 1, 1) := by decide +kernel
theorem dX4_putCoins_32 : decode cX4_putCoins 32 = .ok (.dup2, 1) := by decide +kernel
theorem dX4_putCoins_33 : decode cX4_putCoins 33 = .ok (.iaload, 1) := by decide +kernel
theorem dX4_putCoins_34 : decode cX4_putCoins 34 = .ok (.iload 4, 2) := by decide +kernel
theorem dX4_putCoins_36 : decode cX4_putCoins 36 = .ok (.iadd, 1) := by decide +kernel
theorem dX4_putCoins_37 : decode cX4_putCoins 37 = .ok (.iastore, 1) := by decide +kernel
theorem dX4_putCoins_38 : decode cX4_putCoins 38 = .ok (.aload_n 0, 1) := by decide +kernel
theorem dX4_putCoins_39 : decode cX4_putCoins 39 = .ok (.dup, 1) := by decide +kernel
theorem dX4_putCoins_40 : decode cX4_putCoins 40 = .ok (.getfield 53, 3) := by decide +kernel
theorem dX4_putCoins_43 : decode cX4_putCoins 43 = .ok (.iload 4, 2) := by decide +kernel
theorem dX4_putCoins_45 : decode cX4_putCoins 45 = .ok (.iadd, 1) := by decide +kernel
theorem dX4_putCoins_46 : decode cX4_putCoins 46 = .ok (.putfield 53, 3) := by decide +kernel
theorem dX4_putCoins_49 : decode cX4_putCoins 49 = .ok (.return_, 1) := by decide +kernel
theorem dX5_init_0 : decode cX5_init 0 = .ok (.aload_n 0, 1) := by decide +kernel
theorem dX5_init_1 : decode cX5_init 1 = .ok (.invokespecial 3, 3) := by decide +kernel
theorem dX5_init_4 : decode cX5_init 4 = .ok (.aload_n 0, 1) := by decide +kernel
theorem dX5_init_5 : decode cX5_init 5 = .ok (.sipush 390, 3) := by decide +kernel
theorem dX5_init_8 : decode cX5_init 8 = .ok (.newarray .int, 2) := by decide +kernel
theorem dX5_init_10 : decode cX5_init 10 = .ok (.putfield 11, 3) := by decide +kernel
theorem dX5_init_13 : decode cX5_init 13 = .ok (.return_, 1) := by decide +kernel
theorem dX5_write_0 : decode cX5_write 0 = .ok (.aload_n 0, 1) := by decide +kernel
theorem dX5_write_1 : decode cX5_write 1 = .ok (.iconst 0, 1) := by decide +kernel
theorem dX5_write_2 : decode cX5_write 2 = .ok (.putfield 15, 3) := by decide +kernel
theorem dX5_write_5 : decode cX5_write 5 = .ok (.iconst 0, 1) := by decide +kernel
theorem dX5_write_6 : decode cX5_write 6 = .ok (.istore_n 2, 1) := by decide +kernel
theorem dX5_write_7 : decode cX5_write 7 = .ok (.iload_n 2, 1) := by decide +kernel
theorem dX5_write_8 : decode cX5_write 8 = .ok (.aload_n 1, 1) := by decide +kernel
theorem dX5_write_9 : decode cX5_write 9 = .ok (.getfield 19, 3) := by decide +kernel
theorem dX5_write_12 : decode cX5_write 12 = .ok (.if_icmp .ge 61, 3) := by decide +kernel
theorem dX5_write_15 : decode cX5_write 15 = .ok (.iload_n 2, 1) := by decide +kernel
theorem dX5_write_16 : decode cX5_write 16 = .ok (.ifCond .le 9, 3) := by decide +kernel
theorem dX5_write_19 : decode cX5_write 19 = .ok (.aload_n 0, 1) := by decide +kernel
theorem dX5_write_20 : decode cX5_write 20 = .ok (.bipush 32, 2) := by decide +kernel
theorem dX5_write_22 : decode cX5_write 22 = .ok (.invokevirtual 24, 3) := by decide +kernel
theorem dX5_write_25 : decode cX5_write 25 = .ok (.aload_n 0, 1) := by decide +kernel
theorem dX5_write_26 : decode cX5_write 26 = .ok (.aload_n 1, 1) := by decide +kernel
theorem dX5_write_27 : decode cX5_write 27 = .ok (.getfield 28, 3) := by decide +kernel
theorem dX5_write_30 : decode cX5_write 30 = .ok (.iload_n 2, 1) := by decide +kernel
theorem dX5_write_31 : decode cX5_write 31 = .ok (.iaload, 1) := by decide +kernel
theorem dX5_write_32 : decode cX5_write 32 = .ok (.invokevirtual 31, 3) := by decide +kernel
theorem dX5_write_35 : decode cX5_write 35 = .ok (.aload_n 0, 1) := by decide +kernel
theorem dX5_write_36 : decode cX5_write 36 = .ok (.bipush 58, 2) := by decide +kernel
theorem dX5_write_38 : decode cX5_write 38 = .ok (.invokevirtual 24, 3) := by decide +kernel
theorem dX5_write_41 : decode cX5_write 41 = .ok (.aload_n 0, 1) := by decide +kernel
theorem dX5_write_42 : decode cX5_write 42 = .ok (.aload_n 1, 1) := by decide +kernel
theorem dX5_write_43 : decode cX5_write 43 = .ok (.getfield 34, 3) := by decide +kernel
theorem dX5_write_46 : decode cX5_write 46 = .ok (.iload_n 2, 1) := by decide +kernel
theorem dX5_write_47 : decode cX5_write 47 = .ok (.iaload, 1) := by decide +kernel
theorem dX5_write_48 : decode cX5_write 48 = .ok (.invokevirtual 31, 3) := by decide +kernel
theorem dX5_write_51 : decode cX5_write 51 = .ok (.aload_n 0, 1) := by decide +kernel
theorem dX5_write_52 : decode cX5_write 52 = .ok (.bipush 43, 2) := by decide +kernel
theorem dX5_write_54 : decode cX5_write 54 = .ok (.invokevirtual 24, 3) := by decide +kernel
theorem dX5_write_57 : decode cX5_write 57 = .ok (.aload_n 0, 1) := by decide +kernel
theorem dX5_write_58 : decode cX5_write 58 = .ok (.aload_n 1, 1) := by decide +kernel
theorem dX5_write_59 : decode cX5_write 59 = .ok (.getfield 37, 3) := by decide +kernel
theorem dX5_write_62 : decode cX5_write 62 = .ok (.iload_n 2, 1) := by decide +kernel
theorem dX5_write_63 : decode cX5_write 63 = .ok (.iaload, 1) := by decide +kernel
theorem dX5_write_64 : decode cX5_write 64 = .ok (.invokevirtual 31, 3) := by decide +kernel
theorem dX5_write_67 : decode cX5_write 67 = .ok (.iinc 2 1, 3) := by decide +kernel
theorem dX5_write_70 : decode cX5_write 70 = .ok (.goto (-63), 3) := by decide +kernel
theorem dX5_write_73 : decode cX5_write 73 = .ok (.return_, 1) := by decide +kernel
theorem dX5_putByte_0 : decode cX5_putByte 0 = .ok (.aload_n 0, 1) := by decide +kernel
theorem dX5_putByte_1 : decode cX5_putByte 1 = .ok (.getfield 15, 3) := by decide +kernel
theorem dX5_putByte_4 : decode cX5_putByte 4 = .ok (.sipush 390, 3) := by decide +kernel
theorem dX5_putByte_7 : decode cX5_putByte 7 = .ok (.if_icmp .ge 23, 3) := by decide +kernel
theorem dX5_putByte_10 : decode cX5_putByte 10 = .ok (.aload_n 0, 1) := by decide +kernel
theorem dX5_putByte_11 : decode cX5_putByte 11 = .ok (.getfield 11, 3) := by decide +kernel
theorem dX5_putByte_14 : decode cX5_putByte 14 = .ok (.aload_n 0, 1) := by decide +kernel
theorem dX5_putByte_15 : decode cX5_putByte 15 = .ok (.getfield 15, 3) := by decide +kernel
theorem dX5_putByte_18 : decode cX5_putByte 18 = .ok (.iload_n 1, 1) := by decide +kernel
theorem dX5_putByte_19 : decode cX5_putByte 19 = .ok (.iastore, 1) := by decide +kernel
theorem dX5_putByte_20 : decode cX5_putByte 20 = .ok (.aload_n 0, 1) := by decide +kernel
theorem dX5_putByte_21 : decode cX5_putByte 21 = .ok (.dup, 1) := by decide +kernel
theorem dX5_putByte_22 : decode cX5_putByte 22 = .ok (.getfield 15, 3) := by decide +kernel
theorem dX5_putByte_25 : decode cX5_putByte 25 = .ok (.iconst 1, 1) := by decide +kernel
theorem dX5_putByte_26 : decode cX5_putByte 26 = .ok (.iadd, 1) := by decide +kernel
theorem dX5_putByte_27 : decode cX5_putByte 27 = .ok (.putfield 15, 3) := by decide +kernel
theorem dX5_putByte_30 : decode cX5_putByte 30 = .ok (.return_, 1) := by decide +kernel
theorem dX5_putNumber_0 : decode cX5_putNumber 0 = .ok (.ldc 40, 2) := by decide +kernel
theorem dX5_putNumber_2 : decode cX5_putNumber 2 = .ok (.istore_n 2, 1) := by decide +kernel
theorem dX5_putNumber_3 : decode cX5_putNumber 3 = .ok (.iload_n 2, 1) := by decide +kernel
theorem dX5_putNumber_4 : decode cX5_putNumber 4 = .ok (.iconst 1, 1) := by decide +kernel
theorem dX5_putNumber_5 : decode cX5_putNumber 5 = .ok (.if_icmp .lt 34, 3) := by decide +kernel
theorem dX5_putNumber_8 : decode cX5_putNumber 8 = .ok (.iload_n 1, 1) := by decide +kernel
theorem dX5_putNumber_9 : decode cX5_putNumber 9 = .ok (.iload_n 2, 1) := by decide +kernel
theorem dX5_putNumber_10 : decode cX5_putNumber 10 = .ok (.if_icmp .ge 8, 3) := by decide +kernel
theorem dX5_putNumber_13 : decode cX5_putNumber 13 = .ok (.iload_n 2, 1) := by decide +kernel
theorem dX5_putNumber_14 : decode cX5_putNumber 14 = .ok (.iconst 1, 1) := by decide +kernel
theorem dX5_putNumber_15 : decode cX5_putNumber 15 = .ok (.if_icmp .ne 16, 3) := by decide +kernel
theorem dX5_putNumber_18 : decode cX5_putNumber 18 = .ok (.aload_n 0, 1) := by decide +kernel
theorem dX5_putNumber_19 : decode cX5_putNumber 19 = .ok (.bipush 48, 2) := by decide +kernel
theorem dX5_putNumber_21 : decode cX5_putNumber 21 = .ok (.iload_n 1, 1) := by decide +kernel
theorem dX5_putNumber_22 : decode cX5_putNumber 22 = .ok (.iload_n 2, 1) := by decide +kernel
theorem dX5_putNumber_23 : decode cX5_putNumber 23 = .ok (.idiv, 1) := by decide +kernel
theorem dX5_putNumber_24 : decode cX5_putNumber 24 = .ok (.bipush 10, 2) := by decide +kernel
theorem dX5_putNumber_26 : decode cX5_putNumber 26 = .ok (.irem, 1) := by decide +kernel
theorem dX5_putNumber_27 : decode cX5_putNumber 27 = .ok (.iadd, 1) := by decide +kernel
theorem dX5_putNumber_28 : decode cX5_putNumber 28 = .ok (.invokevirtual 24, 3) := by decide +kernel
theorem dX5_putNumber_31 : decode cX5_putNumber 31 = .ok (.iload_n 2, 1) := by decide +kernel
theorem dX5_putNumber_32 : decode cX5_putNumber 32 = .ok (.bipush 10, 2) := by decide +kernel
theorem dX5_putNumber_34 : decode cX5_putNumber 34 = .ok (.idiv, 1) := by decide +kernel
theorem dX5_putNumber_35 : decode cX5_putNumber 35 = .ok (.istore_n 2, 1) := by decide +kernel
theorem dX5_putNumber_36 : decode cX5_putNumber 36 = .ok (.goto (-33), 3) := by decide +kernel
theorem dX5_putNumber_39 : decode cX5_putNumber 39 = .ok (.return_, 1) := by decide +kernel
theorem dX6_init_0 : decode cX6_init 0 = .ok (.aload_n 0, 1) := by decide +kernel
theorem dX6_init_1 : decode cX6_init 1 = .ok (.invokespecial 3, 3) := by decide +kernel
theorem dX6_init_4 : decode cX6_init 4 = .ok (.aload_n 0, 1) := by decide +kernel
theorem dX6_init_5 : decode cX6_init 5 = .ok (.bipush 30, 2) := by decide +kernel
theorem dX6_init_7 : decode cX6_init 7 = .ok (.newarray .int, 2) := by decide +kernel
theorem dX6_init_9 : decode cX6_init 9 = .ok (.putfield 9, 3) := by decide +kernel
theorem dX6_init_12 : decode cX6_init 12 = .ok (.aload_n 0, 1) := by decide +kernel
theorem dX6_init_13 : decode cX6_init 13 = .ok (.bipush 30, 2) := by decide +kernel
theorem dX6_init_15 : decode cX6_init 15 = .ok (.newarray .int, 2) := by decide +kernel
theorem dX6_init_17 : decode cX6_init 17 = .ok (.putfield 15, 3) := by decide +kernel
theorem dX6_init_20 : decode cX6_init 20 = .ok (.aload_n 0, 1) := by decide +kernel
theorem dX6_init_21 : decode cX6_init 21 = .ok (.bipush 30, 2) := by decide +kernel
theorem dX6_init_23 : decode cX6_init 23 = .ok (.newarray .int, 2) := by decide +kernel
theorem dX6_init_25 : decode cX6_init 25 = .ok (.putfield 18, 3) := by decide +kernel
theorem dX6_init_28 : decode cX6_init 28 = .ok (.return_, 1) := by decide +kernel
theorem dX6_copyFrom_0 : decode cX6_copyFrom 0 = .ok (.aload_n 0, 1) := by decide +kernel
theorem dX6_copyFrom_1 : decode cX6_copyFrom 1 = .ok (.aload_n 1, 1) := by decide +kernel
theorem dX6_copyFrom_2 : decode cX6_copyFrom 2 = .ok (.getfield 21, 3) := by decide +kernel
theorem dX6_copyFrom_5 : decode cX6_copyFrom 5 = .ok (.putfield 21, 3) := by decide +kernel
theorem dX6_copyFrom_8 : decode cX6_copyFrom 8 = .ok (.aload_n 1, 1) := by decide +kernel
theorem dX6_copyFrom_9 : decode cX6_copyFrom 9 = .ok (.getfield 9, 3) := by decide +kernel
theorem dX6_copyFrom_12 : decode cX6_copyFrom 12 = .ok (.iconst 0, 1) := by decide +kernel
theorem dX6_copyFrom_13 : decode cX6_copyFrom 13 = .ok (.aload_n 0, 1) := by decide +kernel
theorem dX6_copyFrom_14 : decode cX6_copyFrom 14 = .ok (.getfield 9, 3) := by decide +kernel
theorem dX6_copyFrom_17 : decode cX6_copyFrom 17 = .ok (.iconst 0, 1) := by decide +kernel
theorem dX6_copyFrom_18 : decode cX6_copyFrom 18 = .ok (.bipush 30, 2) := by decide +kernel
theorem dX6_copyFrom_20 : decode cX6_copyFrom 20 = .ok (.invokestatic 25, 3) := by decide +kernel
theorem dX6_copyFrom_23 : decode cX6_copyFrom 23 = .ok (.aload_n 1, 1) := by decide +kernel
theorem dX6_copyFrom_24 : decode cX6_copyFrom 24 = .ok (.getfield 15, 3) := by decide +kernel
theorem dX6_copyFrom_27 : decode cX6_copyFrom 27 = .ok (.iconst 0, 1) := by decide +kernel
theorem dX6_copyFrom_28 : decode cX6_copyFrom 28 = .ok (.aload_n 0, 1) := by decide +kernel
theorem dX6_copyFrom_29 : decode cX6_copyFrom 29 = .ok (.getfield 15, 3) := by decide +kernel
theorem dX6_copyFrom_32 : decode cX6_copyFrom 32 = .ok (.iconst 0, 1) := by decide +kernel
theorem dX6_copyFrom_33 : decode cX6_copyFrom 33 = .ok (.bipush 30, 2) := by decide +kernel
theorem dX6_copyFrom_35 : decode cX6_copyFrom 35 = .ok (.invokestatic 25, 3) := by decide +kernel
theorem dX6_copyFrom_38 : decode cX6_copyFrom 38 = .ok (.aload_n 1, 1) := by decide +kernel
theorem dX6_copyFrom_39 : decode cX6_copyFrom 39 = .ok (.getfield 18, 3) := by decide +kernel
theorem dX6_copyFrom_42 : decode cX6_copyFrom 42 = .ok (.iconst 0, 1) := by decide +kernel
theorem dX6_copyFrom_43 : decode cX6_copyFrom 43 = .ok (.aload_n 0, 1) := by decide +kernel
theorem dX6_copyFrom_44 : decode cX6_copyFrom 44 = .ok (.getfield 18, 3) := by decide +kernel
theorem dX6_copyFrom_47 : decode cX6_copyFrom 47 = .ok (.iconst 0, 1) := by decide +kernel
theorem dX6_copyFrom_48 : decode cX6_copyFrom 48 = .ok (.bipush 30, 2) := by decide +kernel
theorem dX6_copyFrom_50 : decode cX6_copyFrom 50 = .ok (.invokestatic 25, 3) := by decide +kernel
theorem dX6_copyFrom_53 : decode cX6_copyFrom 53 = .ok (.return_, 1) := by decide +kernel
theorem dX6_add_0 : decode cX6_add 0 = .ok (.aload_n 0, 1) := by decide +kernel
theorem dX6_add_1 : decode cX6_add 1 = .ok (.getfield 21, 3) := by decide +kernel
theorem dX6_add_4 : decode cX6_add 4 = .ok (.bipush 30, 2) := by decide +kernel
theorem dX6_add_6 : decode cX6_add 6 = .ok (.if_icmp .ge 43, 3) := by decide +kernel
theorem dX6_add_9 : decode cX6_add 9 = .ok (.aload_n 0, 1) := by decide +kernel
theorem dX6_add_10 : decode cX6_add 10 = .ok (.getfield 9, 3) := by decide +kernel
theorem dX6_add_13 : decode cX6_add 13 = .ok (.aload_n 0, 1) := by decide +kernel
theorem dX6_add_14 : decode cX6_add 14 = .ok (.getfield 21, 3) := by decide +kernel
theorem dX6_add_17 : decode cX6_add 17 = .ok (.iload_n 1, 1) := by decide +kernel
theorem dX6_add_18 : decode cX6_add 18 = .ok (.iastore, 1) := by decide +kernel
theorem dX6_add_19 : decode cX6_add 19 = .ok (.aload_n 0, 1) := by decide +kernel
theorem dX6_add_20 : decode cX6_add 20 = .ok (.getfield 15, 3) := by decide +kernel
theorem dX6_add_23 : decode cX6_add 23 = .ok (.aload_n 0, 1) := by decide +kernel
theorem dX6_add_24 : decode cX6_add 24 = .ok (.getfield 21, 3) := by decide +kernel
theorem dX6_add_27 : decode cX6_add 27 = .ok (.iload_n 2, 1) := by decide +kernel
theorem dX6_add_28 : decode cX6_add 28 = .ok (.iastore, 1) := by decide +kernel
theorem dX6_add_29 : decode cX6_add 29 = .ok (.aload_n 0, 1) := by decide +kernel
theorem dX6_add_30 : decode cX6_add 30 = .ok (.getfield 18, 3) := by decide +kernel
theorem dX6_add_33 : decode cX6_add 33 = .ok (.aload_n 0, 1) := by decide +kernel
theorem dX6_add_34 : decode cX6_add 34 = .ok (.getfield 21, 3) := by decide +kernel
theorem dX6_add_37 : decode cX6_add 37 = .ok (.iload_n 3, 1) := by decide +kernel
theorem dX6_add_38 : decode cX6_add 38 = .ok (.iastore, 1) := by decide +kernel
theorem dX6_add_39 : decode cX6_add 39 = .ok (.aload_n 0, 1) := by decide +kernel
theorem dX6_add_40 : decode cX6_add 40 = .ok (.dup, 1) := by decide +kernel
theorem dX6_add_41 : decode cX6_add 41 = .ok (.getfield 21, 3) := by decide +kernel
theorem dX6_add_44 : decode cX6_add 44 = .ok (.iconst 1, 1) := by decide +kernel
theorem dX6_add_45 : decode cX6_add 45 = .ok (.iadd, 1) := by decide +kernel
theorem dX6_add_46 : decode cX6_add 46 = .ok (.putfield 21, 3) := by decide +kernel
theorem dX6_add_49 : decode cX6_add 49 = .ok (.return_, 1) := by decide +kernel
theorem dX6_endOf_0 : decode cX6_endOf 0 = .ok (.aload_n 0, 1) := by decide +kernel
theorem dX6_endOf_1 : decode cX6_endOf 1 = .ok (.getfield 15, 3) := by decide +kernel
theorem dX6_endOf_4 : decode cX6_endOf 4 = .ok (.iload_n 1, 1) := by decide +kernel
theorem dX6_endOf_5 : decode cX6_endOf 5 = .ok (.iaload, 1) := by decide +kernel
theorem dX6_endOf_6 : decode cX6_endOf 6 = .ok (.aload_n 0, 1) := by decide +kernel
theorem dX6_endOf_7 : decode cX6_endOf 7 = .ok (.getfield 18, 3) := by decide +kernel
theorem dX6_endOf_10 : decode cX6_endOf 10 = .ok (.iload_n 1, 1) := by decide +kernel
theorem dX6_endOf_11 : decode cX6_endOf 11 = .ok (.iaload, 1) := by decide +kernel
theorem dX6_endOf_12 : decode cX6_endOf 12 = .ok (.iadd, 1) := by decide +kernel
theorem dX6_endOf_13 : decode cX6_endOf 13 = .ok (.ireturn, 1) := by decide +kernel
theorem dX6_covers_0 : decode cX6_covers 0 = .ok (.aload_n 0, 1) := by decide +kernel
theorem dX6_covers_1 : decode cX6_covers 1 = .ok (.getfield 15, 3) := by decide +kernel
theorem dX6_covers_4 : decode cX6_covers 4 = .ok (.iload_n 1, 1) := by decide +kernel
theorem dX6_covers_5 : decode cX6_covers 5 = .ok (.iaload, 1) := by decide +kernel
theorem dX6_covers_6 : decode cX6_covers 6 = .ok (.iload_n 2, 1) := by decide +kernel
theorem dX6_covers_7 : decode cX6_covers 7 = .ok (.if_icmp .gt 16, 3) := by decide +kernel
theorem dX6_covers_10 : decode cX6_covers 10 = .ok (.iload_n 2, 1) := by decide +kernel
theorem dX6_covers_11 : decode cX6_covers 11 = .ok (.aload_n 0, 1) := by decide +kernel
theorem dX6_covers_12 : decode cX6_covers 12 = .ok (.iload_n 1, 1) := by decide +kernel
theorem dX6_covers_13 : decode cX6_covers 13 = .ok (.invokevirtual 31, 3) := by decide +kernel
theorem dX6_covers_16 : decode cX6_covers 16 = .ok (.if_icmp .ge 7, 3) := by decide +kernel
theorem dX6_covers_19 : decode cX6_covers 19 = .ok (.iconst 1, 1) := by decide +kernel
theorem dX6_covers_20 : decode cX6_covers 20 = .ok (.goto 4, 3) := by decide +kernel
theorem dX6_covers_23 : decode cX6_covers 23 = .ok (.iconst 0, 1) := by decide +kernel
theorem dX6_covers_24 : decode cX6_covers 24 = .ok (.ireturn, 1) := by decide +kernel
theorem dX6_coverAny_0 : decode cX6_coverAny 0 = .ok (.iconst 0, 1) := by decide +kernel
theorem dX6_coverAny_1 : decode cX6_coverAny 1 = .ok (.istore 4, 2) := by decide +kernel
theorem dX6_coverAny_3 : decode cX6_coverAny 3 = .ok (.iload 4, 2) := by decide +kernel
theorem dX6_coverAny_5 : decode cX6_coverAny 5 = .ok (.aload_n 0, 1) := by decide +kernel
theorem dX6_coverAny_6 : decode cX6_coverAny 6 = .ok (.getfield 21, 3) := by decide +kernel
theorem dX6_coverAny_9 : decode cX6_coverAny 9 = .ok (.if_icmp .ge 43, 3) := by decide +kernel
theorem dX6_coverAny_12 : decode cX6_coverAny 12 = .ok (.aload_n 0, 1) := by decide +kernel
theorem dX6_coverAny_13 : decode cX6_coverAny 13 = .ok (.getfield 9, 3) := by decide +kernel
theorem dX6_coverAny_16 : decode cX6_coverAny 16 = .ok (.iload 4, 2) := by decide +kernel
theorem dX6_coverAny_18 : decode cX6_coverAny 18 = .ok (.iaload, 1) := by decide +kernel
theorem dX6_coverAny_19 : decode cX6_coverAny 19 = .ok (.iload_n 1, 1) := by decide +kernel
theorem dX6_coverAny_20 : decode cX6_coverAny 20 = .ok (.if_icmp .ne 26, 3) := by decide +kernel
theorem dX6_coverAny_23 : decode cX6_coverAny 23 = .ok (.aload_n 0, 1) := by decide +kernel
theorem dX6_coverAny_24 : decode cX6_coverAny 24 = .ok (.getfield 15, 3) := by decide +kernel
theorem dX6_coverAny_27 : decode cX6_coverAny 27 = .ok (.iload 4, 2) := by decide +kernel
theorem dX6_coverAny_29 : decode cX6_coverAny 29 = .ok (.iaload, 1) := by decide +kernel
theorem dX6_coverAny_30 : decode cX6_coverAny 30 = .ok (.iload_n 3, 1) := by decide +kernel
theorem dX6_coverAny_31 : decode cX6_coverAny 31 = .ok (.if_icmp .ge 15, 3) := by decide +kernel
theorem dX6_coverAny_34 : decode cX6_coverAny 34 = .ok (.iload_n 2, 1) := by decide +kernel
theorem dX6_coverAny_35 : decode cX6_coverAny 35 = .ok (.aload_n 0, 1) := by decide +kernel
theorem dX6_coverAny_36 : decode cX6_coverAny 36 = .ok (.iload 4, 2) := by decide +kernel
theorem dX6_coverAny_38 : decode cX6_coverAny 38 = .ok (.invokevirtual 31, 3) := by decide +kernel
theorem dX6_coverAny_41 : decode cX6_coverAny 41 = .ok (.if_icmp .ge 5, 3) := by decide +kernel
theorem dX6_coverAny_44 : decode cX6_coverAny 44 = .ok (.iconst 1, 1) := by decide +kernel
theorem dX6_coverAny_45 : decode cX6_coverAny 45 = .ok (.ireturn, 1) := by decide +kernel
theorem dX6_coverAny_46 : decode cX6_coverAny 46 = .ok (.iinc 4 1, 3) := by decide +kernel
theorem dX6_coverAny_49 : decode cX6_coverAny 49 = .ok (.goto (-46), 3) := by decide +kernel
theorem dX6_coverAny_52 : decode cX6_coverAny 52 = .ok (.iconst 0, 1) := by decide +kernel
theorem dX6_coverAny_53 : decode cX6_coverAny 53 = .ok (.ireturn, 1) := by decide +kernel
theorem dX6_removeOf_0 : decode cX6_removeOf 0 = .ok (.iconst 0, 1) := by decide +kernel
theorem dX6_removeOf_1 : decode cX6_removeOf 1 = .ok (.istore_n 2, 1) := by decide +kernel
theorem dX6_removeOf_2 : decode cX6_removeOf 2 = .ok (.iconst 0, 1) := by decide +kernel
theorem dX6_removeOf_3 : decode cX6_removeOf 3 = .ok (.istore_n 3, 1) := by decide +kernel
theorem dX6_removeOf_4 : decode cX6_removeOf 4 = .ok (.iload_n 3, 1) := by decide +kernel
theorem dX6_removeOf_5 : decode cX6_removeOf 5 = .ok (.aload_n 0, 1) := by decide +kernel
theorem dX6_removeOf_6 : decode cX6_removeOf 6 = .ok (.getfield 21, 3) := by decide +kernel
theorem dX6_removeOf_9 : decode cX6_removeOf 9 = .ok (.if_icmp .ge 28, 3) := by decide +kernel
theorem dX6_removeOf_12 : decode cX6_removeOf 12 = .ok (.aload_n 0, 1) := by decide +kernel
theorem dX6_removeOf_13 : decode cX6_removeOf 13 = .ok (.getfield 9, 3) := by decide +kernel
theorem dX6_removeOf_16 : decode cX6_removeOf 16 = .ok (.iload_n 3, 1) := by decide +kernel
theorem dX6_removeOf_17 : decode cX6_removeOf 17 = .ok (.iaload, 1) := by decide +kernel
theorem dX6_removeOf_18 : decode cX6_removeOf 18 = .ok (.iload_n 1, 1) := by decide +kernel
theorem dX6_removeOf_19 : decode cX6_removeOf 19 = .ok (.if_icmp .eq 12, 3) := by decide +kernel
theorem dX6_removeOf_22 : decode cX6_removeOf 22 = .ok (.aload_n 0, 1) := by decide +kernel
theorem dX6_removeOf_23 : decode cX6_removeOf 23 = .ok (.iload_n 3, 1) := by decide +kernel
theorem dX6_removeOf_24 : decode cX6_removeOf 24 = .ok (.iload_n 2, 1) := by decide +kernel
theorem dX6_removeOf_25 : decode cX6_removeOf 25 = .ok (.invokevirtual 35, 3) := by decide +kernel
theorem dX6_removeOf_28 : decode cX6_removeOf 28 = .ok (.iinc 2 1, 3) := by decide +kernel
theorem dX6_removeOf_31 : decode cX6_removeOf 31 = .ok (.iinc 3 1, 3) := by decide +kernel
theorem dX6_removeOf_34 : decode cX6_removeOf 34 = .ok (.goto (-30), 3) := by decide +kernel
theorem dX6_removeOf_37 : decode cX6_removeOf 37 = .ok (.aload_n 0, 1) := by decide +kernel
theorem dX6_removeOf_38 : decode cX6_removeOf 38 = .ok (.getfield 21, 3) := by decide +kernel
theorem dX6_removeOf_41 : decode cX6_removeOf 41 = .ok (.iload_n 2, 1) := by decide +kernel
theorem dX6_removeOf_42 : decode cX6_removeOf 42 = .ok (.isub, 1) := by decide +kernel
theorem dX6_removeOf_43 : decode cX6_removeOf 43 = .ok (.istore_n 3, 1) := by decide +kernel
theorem dX6_removeOf_44 : decode cX6_removeOf 44 = .ok (.aload_n 0, 1) := by decide +kernel
theorem dX6_removeOf_45 : decode cX6_removeOf 45 = .ok (.iload_n 2, 1) := by decide +kernel
theorem dX6_removeOf_46 : decode cX6_removeOf 46 = .ok (.putfield 21, 3) := by decide +kernel
theorem dX6_removeOf_49 : decode cX6_removeOf 49 = .ok (.iload_n 3, 1) := by decide +kernel
theorem dX6_removeOf_50 : decode cX6_removeOf 50 = .ok (.ireturn, 1) := by decide +kernel
theorem dX6_removeEnded_0 : decode cX6_removeEnded 0 = .ok (.iconst 0, 1) := by decide +kernel
theorem dX6_removeEnded_1 : decode cX6_removeEnded 1 = .ok (.istore_n 2, 1) := by decide +kernel
theorem dX6_removeEnded_2 : decode cX6_removeEnded 2 = .ok (.iconst 0, 1) := by decide +kernel
theorem dX6_removeEnded_3 : decode cX6_removeEnded 3 = .ok (.istore_n 3, 1) := by decide +kernel
theorem dX6_removeEnded_4 : decode cX6_removeEnded 4 = .ok (.iload_n 3, 1) := by decide +kernel
theorem dX6_removeEnded_5 : decode cX6_removeEnded 5 = .ok (.aload_n 0, 1) := by decide +kernel
theorem dX6_removeEnded_6 : decode cX6_removeEnded 6 = .ok (.getfield 21, 3) := by decide +kernel
theorem dX6_removeEnded_9 : decode cX6_removeEnded 9 = .ok (.if_icmp .ge 27, 3) := by decide +kernel
theorem dX6_removeEnded_12 : decode cX6_removeEnded 12 = .ok (.aload_n 0, 1) := by decide +kernel
theorem dX6_removeEnded_13 : decode cX6_removeEnded 13 = .ok (.iload_n 3, 1) := by decide +kernel
theorem dX6_removeEnded_14 : decode cX6_removeEnded 14 = .ok (.invokevirtual 31, 3) := by decide +kernel
theorem dX6_removeEnded_17 : decode cX6_removeEnded 17 = .ok (.iload_n 1, 1) := by decide +kernel
theorem dX6_removeEnded_18 : decode cX6_removeEnded 18 = .ok (.if_icmp .le 12, 3) := by decide +kernel
theorem dX6_removeEnded_21 : decode cX6_removeEnded 21 = .ok (.aload_n 0, 1) := by decide +kernel
theorem dX6_removeEnded_22 : decode cX6_removeEnded 22 = .ok (.iload_n 3, 1) := by decide +kernel
theorem dX6_removeEnded_23 : decode cX6_removeEnded 23 = .ok (.iload_n 2, 1) := by decide +kernel
theorem dX6_removeEnded_24 : decode cX6_removeEnded 24 = .ok (.invokevirtual 35, 3) := by decide +kernel
theorem dX6_removeEnded_27 : decode cX6_removeEnded 27 = .ok (.iinc 2 1, 3) := by decide +kernel
theorem dX6_removeEnded_30 : decode cX6_removeEnded 30 = .ok (.iinc 3 1, 3) := by decide +kernel
theorem dX6_removeEnded_33 : decode cX6_removeEnded 33 = .ok (.goto (-29), 3) := by decide +kernel
theorem dX6_removeEnded_36 : decode cX6_removeEnded 36 = .ok (.aload_n 0, 1) := by decide +kernel
theorem dX6_removeEnded_37 : decode cX6_removeEnded 37 = .ok (.iload_n 2, 1) := by decide +kernel
theorem dX6_removeEnded_38 : decode cX6_removeEnded 38 = .ok (.putfield 21, 3) := by decide +kernel
theorem dX6_removeEnded_41 : decode cX6_removeEnded 41 = .ok (.return_, 1) := by decide +kernel
theorem dX6_move_0 : decode cX6_move 0 = .ok (.aload_n 0, 1) := by decide +kernel
theorem dX6_move_1 : decode cX6_move 1 = .ok (.getfield 9, 3) := by decide +kernel
theorem dX6_move_4 : decode cX6_move 4 = .ok (.iload_n 2, 1) := by decide +kernel
theorem dX6_move_5 : decode cX6_move 5 = .ok (.aload_n 0, 1) := by decide +kernel
theorem dX6_move_6 : decode cX6_move 6 = .ok (.getfield 9, 3) := by decide +kernel
theorem dX6_move_9 : decode cX6_move 9 = .ok (.iload_n 1, 1) := by decide +kernel
theorem dX6_move_10 : decode cX6_move 10 = .ok (.iaload, 1) := by decide +kernel
theorem dX6_move_11 : decode cX6_move 11 = .ok (.iastore, 1) := by decide +kernel
theorem dX6_move_12 : decode cX6_move 12 = .ok (.aload_n 0, 1) := by decide +kernel
theorem dX6_move_13 : decode cX6_move 13 = .ok (.getfield 15, 3) := by decide +kernel
theorem dX6_move_16 : decode cX6_move 16 = .ok (.iload_n 2, 1) := by decide +kernel
theorem dX6_move_17 : decode cX6_move 17 = .ok (.aload_n 0, 1) := by decide +kernel
theorem dX6_move_18 : decode cX6_move 18 = .ok (.getfield 15, 3) := by decide +kernel
theorem dX6_move_21 : decode cX6_move 21 = .ok (.iload_n 1, 1) := by decide +kernel
theorem dX6_move_22 : decode cX6_move 22 = .ok (.iaload, 1) := by decide +kernel
theorem dX6_move_23 : decode cX6_move 23 = .ok (.iastore, 1) := by decide +kernel
theorem dX6_move_24 : decode cX6_move 24 = .ok (.aload_n 0, 1) := by decide +kernel
theorem dX6_move_25 : decode cX6_move 25 = .ok (.getfield 18, 3) := by decide +kernel
theorem dX6_move_28 : decode cX6_move 28 = .ok (.iload_n 2, 1) := by decide +kernel
theorem dX6_move_29 : decode cX6_move 29 = .ok (.aload_n 0, 1) := by decide +kernel
theorem dX6_move_30 : decode cX6_move 30 = .ok (.getfield 18, 3) := by decide +kernel
theorem dX6_move_33 : decode cX6_move 33 = .ok (.iload_n 1, 1) := by decide +kernel
theorem dX6_move_34 : decode cX6_move 34 = .ok (.iaload, 1) := by decide +kernel
theorem dX6_move_35 : decode cX6_move 35 = .ok (.iastore, 1) := by decide +kernel
theorem dX6_move_36 : decode cX6_move 36 = .ok (.return_, 1) := by decide +kernel
theorem dX7_init_0 : decode cX7_init 0 = .ok (.aload_n 0, 1) := by decide +kernel
theorem dX7_init_1 : decode cX7_init 1 = .ok (.invokespecial 3, 3) := by decide +kernel
theorem dX7_init_4 : decode cX7_init 4 = .ok (.aload_n 0, 1) := by decide +kernel
theorem dX7_init_5 : decode cX7_init 5 = .ok (.bipush 20, 2) := by decide +kernel
theorem dX7_init_7 : decode cX7_init 7 = .ok (.newarray .int, 2) := by decide +kernel
theorem dX7_init_9 : decode cX7_init 9 = .ok (.putfield 9, 3) := by decide +kernel
theorem dX7_init_12 : decode cX7_init 12 = .ok (.aload_n 0, 1) := by decide +kernel
theorem dX7_init_13 : decode cX7_init 13 = .ok (.bipush 20, 2) := by decide +kernel
theorem dX7_init_15 : decode cX7_init 15 = .ok (.newarray .int, 2) := by decide +kernel
theorem dX7_init_17 : decode cX7_init 17 = .ok (.putfield 15, 3) := by decide +kernel
theorem dX7_init_20 : decode cX7_init 20 = .ok (.aload_n 0, 1) := by decide +kernel
theorem dX7_init_21 : decode cX7_init 21 = .ok (.bipush 20, 2) := by decide +kernel
theorem dX7_init_23 : decode cX7_init 23 = .ok (.newarray .int, 2) := by decide +kernel
theorem dX7_init_25 : decode cX7_init 25 = .ok (.putfield 18, 3) := by decide +kernel
theorem dX7_init_28 : decode cX7_init 28 = .ok (.aload_n 0, 1) := by decide +kernel
theorem dX7_init_29 : decode cX7_init 29 = .ok (.bipush 20, 2) := by decide +kernel
theorem dX7_init_31 : decode cX7_init 31 = .ok (.newarray .int, 2) := by decide +kernel
theorem dX7_init_33 : decode cX7_init 33 = .ok (.putfield 21, 3) := by decide +kernel
theorem dX7_init_36 : decode cX7_init 36 = .ok (.return_, 1) := by decide +kernel
theorem dX7_readFrom_0 : decode cX7_readFrom 0 = .ok (.aload_n 1, 1) := by decide +kernel
theorem dX7_readFrom_1 : decode cX7_readFrom 1 = .ok (.invokevirtual 24, 3) := by decide +kernel
theorem dX7_readFrom_4 : decode cX7_readFrom 4 = .ok (.aload_n 0, 1) := by decide +kernel
theorem dX7_readFrom_5 : decode cX7_readFrom 5 = .ok (.iconst 0, 1) := by decide +kernel
theorem dX7_readFrom_6 : decode cX7_readFrom 6 = .ok (.putfield 29, 3) := by decide +kernel
theorem dX7_readFrom_9 : decode cX7_readFrom 9 = .ok (.aload_n 0, 1) := by decide +kernel
theorem dX7_readFrom_10 : decode cX7_readFrom 10 = .ok (.getfield 29, 3) := by decide +kernel
theorem dX7_readFrom_13 : decode cX7_readFrom 13 = .ok (.bipush 20, 2) := by decide +kernel
theorem dX7_readFrom_15 : decode cX7_readFrom 15 = .ok (.if_icmp .ge 28, 3) := by decide +kernel
theorem dX7_readFrom_18 : decode cX7_readFrom 18 = .ok (.aload_n 1, 1) := by decide +kernel
theorem dX7_readFrom_19 : decode cX7_readFrom 19 = .ok (.invokevirtual 33, 3) := by decide +kernel
theorem dX7_readFrom_22 : decode cX7_readFrom 22 = .ok (.ifCond .ne 21, 3) := by decide +kernel
theorem dX7_readFrom_25 : decode cX7_readFrom 25 = .ok (.aload_n 0, 1) := by decide +kernel
theorem dX7_readFrom_26 : decode cX7_readFrom 26 = .ok (.aload_n 1, 1) := by decide +kernel
theorem dX7_readFrom_27 : decode cX7_readFrom 27 = .ok (.invokevirtual 37, 3) := by decide +kernel
theorem dX7_readFrom_30 : decode cX7_readFrom 30 = .ok (.aload_n 0, 1) := by decide +kernel
theorem dX7_readFrom_31 : decode cX7_readFrom 31 = .ok (.dup, 1) := by decide +kernel
theorem dX7_readFrom_32 : decode cX7_readFrom 32 = .ok (.getfield 29, 3) := by decide +kernel
theorem dX7_readFrom_35 : decode cX7_readFrom 35 = .ok (.iconst 1, 1) := by decide +kernel
theorem dX7_readFrom_36 : decode cX7_readFrom 36 = .ok (.iadd, 1) := by decide +kernel
theorem dX7_readFrom_37 : decode cX7_readFrom 37 = .ok (.putfield 29, 3) := by decide +kernel
theorem dX7_readFrom_40 : decode cX7_readFrom 40 = .ok (.goto (-31), 3) := by decide +kernel
theorem dX7_readFrom_43 : decode cX7_readFrom 43 = .ok (.aload_n 1, 1) := by decide +kernel
theorem dX7_readFrom_44 : decode cX7_readFrom 44 = .ok (.invokevirtual 33, 3) := by decide +kernel
theorem dX7_readFrom_47 : decode cX7_readFrom 47 = .ok (.ifCond .ne 19, 3) := by decide +kernel
theorem dX7_readFrom_50 : decode cX7_readFrom 50 = .ok (.aload_n 1, 1) := by decide +kernel
theorem dX7_readFrom_51 : decode cX7_readFrom 51 = .ok (.aload_n 1, 1) := by decide +kernel
theorem dX7_readFrom_52 : decode cX7_readFrom 52 = .ok (.invokestatic 41, 3) := by decide +kernel
theorem dX7_readFrom_55 : decode cX7_readFrom 55 = .ok (.ifCond .ne 7, 3) := by decide +kernel
theorem dX7_readFrom_58 : decode cX7_readFrom 58 = .ok (.iconst 1, 1) := by decide +kernel
theorem dX7_readFrom_59 : decode cX7_readFrom 59 = .ok (.goto 4, 3) := by decide +kernel
theorem dX7_readFrom_62 : decode cX7_readFrom 62 = .ok (.iconst 3, 1) := by decide +kernel
theorem dX7_readFrom_63 : decode cX7_readFrom 63 = .ok (.invokevirtual 45, 3) := by decide +kernel
theorem dX7_readFrom_66 : decode cX7_readFrom 66 = .ok (.return_, 1) := by decide +kernel
theorem dX7_readCommand_0 : decode cX7_readCommand 0 = .ok (.aload_n 1, 1) := by decide +kernel
theorem dX7_readCommand_1 : decode cX7_readCommand 1 = .ok (.invokestatic 41, 3) := by decide +kernel
theorem dX7_readCommand_4 : decode cX7_readCommand 4 = .ok (.istore_n 2, 1) := by decide +kernel
theorem dX7_readCommand_5 : decode cX7_readCommand 5 = .ok (.iload_n 2, 1) := by decide +kernel
theorem dX7_readCommand_6 : decode cX7_readCommand 6 = .ok (.ifCond .ne 9, 3) := by decide +kernel
theorem dX7_readCommand_9 : decode cX7_readCommand 9 = .ok (.aload_n 1, 1) := by decide +kernel
theorem dX7_readCommand_10 : decode cX7_readCommand 10 = .ok (.iconst 1, 1) := by decide +kernel
theorem dX7_readCommand_11 : decode cX7_readCommand 11 = .ok (.invokevirtual 45, 3) := by decide +kernel
theorem dX7_readCommand_14 : decode cX7_readCommand 14 = .ok (.return_, 1) := by decide +kernel
theorem dX7_readCommand_15 : decode cX7_readCommand 15 = .ok (.aload_n 1, 1) := by decide +kernel
theorem dX7_readCommand_16 : decode cX7_readCommand 16 = .ok (.invokevirtual 49, 3) := by decide +kernel
theorem dX7_readCommand_19 : decode cX7_readCommand 19 = .ok (.aload_n 0, 1) := by decide +kernel
theorem dX7_readCommand_20 : decode cX7_readCommand 20 = .ok (.getfield 9, 3) := by decide +kernel
theorem dX7_readCommand_23 : decode cX7_readCommand 23 = .ok (.aload_n 0, 1) := by decide +kernel
theorem dX7_readCommand_24 : decode cX7_readCommand 24 = .ok (.getfield 29, 3) := by decide +kernel
theorem dX7_readCommand_27 : decode cX7_readCommand 27 = .ok (.iload_n 2, 1) := by decide +kernel
theorem dX7_readCommand_28 : decode cX7_readCommand 28 = .ok (.iastore, 1) := by decide +kernel
theorem dX7_readCommand_29 : decode cX7_readCommand 29 = .ok (.aload_n 0, 1) := by decide +kernel
theorem dX7_readCommand_30 : decode cX7_readCommand 30 = .ok (.getfield 15, 3) := by decide +kernel
theorem dX7_readCommand_33 : decode cX7_readCommand 33 = .ok (.aload_n 0, 1) := by decide +kernel
theorem dX7_readCommand_34 : decode cX7_readCommand 34 = .ok (.getfield 29, 3) := by decide +kernel
theorem dX7_readCommand_37 : decode cX7_readCommand 37 = .ok (.iload_n 2, 1) := by decide +kernel
theorem dX7_readCommand_38 : decode cX7_readCommand 38 = .ok (.iconst 3, 1) := by decide +kernel
theorem dX7_readCommand_39 : decode cX7_readCommand 39 = .ok (.if_icmp .ne 13, 3) := by decide +kernel
theorem dX7_readCommand_42 : decode cX7_readCommand 42 = .ok (.aload_n 1, 1) := by decide +kernel
theorem dX7_readCommand_43 : decode cX7_readCommand 43 = .ok (.iconst 1, 1) := by decide +kernel
theorem dX7_readCommand_44 : decode cX7_readCommand 44 = .ok (.bipush 48, 2) := by decide +kernel
theorem dX7_readCommand_46 : decode cX7_readCommand 46 = .ok (.invokevirtual 52, 3) := by decide +kernel
theorem dX7_readCommand_49 : decode cX7_readCommand 49 = .ok (.goto 10, 3) := by decide +kernel
theorem dX7_readCommand_52 : decode cX7_readCommand 52 = .ok (.aload_n 1, 1) := by decide +kernel
theorem dX7_readCommand_53 : decode cX7_readCommand 53 = .ok (.iconst 0, 1) := by decide +kernel
theorem dX7_readCommand_54 : decode cX7_readCommand 54 = .ok (.bipush 15, 2) := by decide +kernel
theorem dX7_readCommand_56 : decode cX7_readCommand 56 = .ok (.invokevirtual 52, 3) := by decide +kernel
theorem dX7_readCommand_59 : decode cX7_readCommand 59 = .ok (.iastore, 1) := by decide +kernel
theorem dX7_readCommand_60 : decode cX7_readCommand 60 = .ok (.iload_n 2, 1) := by decide +kernel
theorem dX7_readCommand_61 : decode cX7_readCommand 61 = .ok (.iconst 4, 1) := by decide +kernel
theorem dX7_readCommand_62 : decode cX7_readCommand 62 = .ok (.if_icmp .ne 38, 3) := by decide +kernel
theorem dX7_readCommand_65 : decode cX7_readCommand 65 = .ok (.aload_n 0, 1) := by decide +kernel
theorem dX7_readCommand_66 : decode cX7_readCommand 66 = .ok (.getfield 18, 3) := by decide +kernel
theorem dX7_readCommand_69 : decode cX7_readCommand 69 = .ok (.aload_n 0, 1) := by decide +kernel
theorem dX7_readCommand_70 : decode cX7_readCommand 70 = .ok (.getfield 29, 3) := by decide +kernel
theorem dX7_readCommand_73 : decode cX7_readCommand 73 = .ok (.aload_n 1, 1) := by decide +kernel
theorem dX7_readCommand_74 : decode cX7_readCommand 74 = .ok (.iconst 0, 1) := by decide +kernel
theorem dX7_readCommand_75 : decode cX7_readCommand 75 = .ok (.ldc 56, 2) := by decide +kernel
theorem dX7_readCommand_77 : decode cX7_readCommand 77 = .ok (.invokevirtual 52, 3) := by decide +kernel
theorem dX7_readCommand_80 : decode cX7_readCommand 80 = .ok (.iastore, 1) := by decide +kernel
theorem dX7_readCommand_81 : decode cX7_readCommand 81 = .ok (.aload_n 0, 1) := by decide +kernel
theorem dX7_readCommand_82 : decode cX7_readCommand 82 = .ok (.getfield 21, 3) := by decide +kernel
theorem dX7_readCommand_85 : decode cX7_readCommand 85 = .ok (.aload_n 0, 1) := by decide +kernel
theorem dX7_readCommand_86 : decode cX7_readCommand 86 = .ok (.getfield 29, 3) := by decide +kernel
theorem dX7_readCommand_89 : decode cX7_readCommand 89 = .ok (.aload_n 1, 1) := by decide +kernel
theorem dX7_readCommand_90 : decode cX7_readCommand 90 = .ok (.iconst 1, 1) := by decide +kernel
theorem dX7_readCommand_91 : decode cX7_readCommand 91 = .ok (.bipush 24, 2) := by decide +kernel
theorem dX7_readCommand_93 : decode cX7_readCommand 93 = .ok (.invokevirtual 52, 3) := by decide +kernel
theorem dX7_readCommand_96 : decode cX7_readCommand 96 = .ok (.iastore, 1) := by decide +kernel
theorem dX7_readCommand_97 : decode cX7_readCommand 97 = .ok (.goto 51, 3) := by decide +kernel
theorem dX7_readCommand_100 : decode cX7_readCommand 100 = .ok (.iload_n 2, 1) := by decide +kernel
theorem dX7_readCommand_101 : decode cX7_readCommand 101 = .ok (.bipush 6, 2) := by decide +kernel
theorem dX7_readCommand_103 : decode cX7_readCommand 103 = .ok (.if_icmp .ne 22, 3) := by decide +kernel
theorem dX7_readCommand_106 : decode cX7_readCommand 106 = .ok (.aload_n 0, 1) := by decide +kernel
theorem dX7_readCommand_107 : decode cX7_readCommand 107 = .ok (.getfield 18, 3) := by decide +kernel
theorem dX7_readCommand_110 : decode cX7_readCommand 110 = .ok (.aload_n 0, 1) := by decide +kernel
theorem dX7_readCommand_111 : decode cX7_readCommand 111 = .ok (.getfield 29, 3) := by decide +kernel
theorem dX7_readCommand_114 : decode cX7_readCommand 114 = .ok (.aload_n 1, 1) := by decide +kernel
theorem dX7_readCommand_115 : decode cX7_readCommand 115 = .ok (.iconst 0, 1) := by decide +kernel
theorem dX7_readCommand_116 : decode cX7_readCommand 116 = .ok (.bipush 9, 2) := by decide +kernel
theorem dX7_readCommand_118 : decode cX7_readCommand 118 = .ok (.invokevirtual 52, 3) := by decide +kernel
theorem dX7_readCommand_121 : decode cX7_readCommand 121 = .ok (.iastore, 1) := by decide +kernel
theorem dX7_readCommand_122 : decode cX7_readCommand 122 = .ok (.goto 26, 3) := by decide +kernel
theorem dX7_readCommand_125 : decode cX7_readCommand 125 = .ok (.iload_n 2, 1) := by decide +kernel
theorem dX7_readCommand_126 : decode cX7_readCommand 126 = .ok (.bipush 8, 2) := by decide +kernel
theorem dX7_readCommand_128 : decode cX7_readCommand 128 = .ok (.if_icmp .ne 20, 3) := by decide +kernel
theorem dX7_readCommand_131 : decode cX7_readCommand 131 = .ok (.aload_n 0, 1) := by decide +kernel
theorem dX7_readCommand_132 : decode cX7_readCommand 132 = .ok (.getfield 18, 3) := by decide +kernel
theorem dX7_readCommand_135 : decode cX7_readCommand 135 = .ok (.aload_n 0, 1) := by decide +kernel
theorem dX7_readCommand_136 : decode cX7_readCommand 136 = .ok (.getfield 29, 3) := by decide +kernel
theorem dX7_readCommand_139 : decode cX7_readCommand 139 = .ok (.aload_n 1, 1) := by decide +kernel
theorem dX7_readCommand_140 : decode cX7_readCommand 140 = .ok (.iconst 1, 1) := by decide +kernel
theorem dX7_readCommand_141 : decode cX7_readCommand 141 = .ok (.sipush 999, 3) := by decide +kernel
theorem dX7_readCommand_144 : decode cX7_readCommand 144 = .ok (.invokevirtual 52, 3) := by decide +kernel
theorem dX7_readCommand_147 : decode cX7_readCommand 147 = .ok (.iastore, 1) := by decide +kernel
theorem dX7_readCommand_148 : decode cX7_readCommand 148 = .ok (.aload_n 1, 1) := by decide +kernel
theorem dX7_readCommand_149 : decode cX7_readCommand 149 = .ok (.invokevirtual 57, 3) := by decide +kernel
theorem dX7_readCommand_152 : decode cX7_readCommand 152 = .ok (.return_, 1) := by decide +kernel
theorem dX7_commandAt_0 : decode cX7_commandAt 0 = .ok (.aload_n 0, 1) := by decide +kernel
theorem dX7_commandAt_1 : decode cX7_commandAt 1 = .ok (.ldc 60, 2) := by decide +kernel
theorem dX7_commandAt_3 : decode cX7_commandAt 3 = .ok (.invokevirtual 62, 3) := by decide +kernel
theorem dX7_commandAt_6 : decode cX7_commandAt 6 = .ok (.ifCond .eq 5, 3) := by decide +kernel
theorem dX7_commandAt_9 : decode cX7_commandAt 9 = .ok (.iconst 1, 1) := by decide +kernel
theorem dX7_commandAt_10 : decode cX7_commandAt 10 = .ok (.ireturn, 1) := by decide +kernel
theorem dX7_commandAt_11 : decode cX7_commandAt 11 = .ok (.aload_n 0, 1) := by decide +kernel
theorem dX7_commandAt_12 : decode cX7_commandAt 12 = .ok (.ldc 66, 2) := by decide +kernel
theorem dX7_commandAt_14 : decode cX7_commandAt 14 = .ok (.invokevirtual 62, 3) := by decide +kernel
theorem dX7_commandAt_17 : decode cX7_commandAt 17 = .ok (.ifCond .eq 5, 3) := by decide +kernel
theorem dX7_commandAt_20 : decode cX7_commandAt 20 = .ok (.iconst 2, 1) := by decide +kernel
theorem dX7_commandAt_21 : decode cX7_commandAt 21 = .ok (.ireturn, 1) := by decide +kernel
theorem dX7_commandAt_22 : decode cX7_commandAt 22 = .ok (.aload_n 0, 1) := by decide +kernel
theorem dX7_commandAt_23 : decode cX7_commandAt 23 = .ok (.ldc 68, 2) := by decide +kernel
theorem dX7_commandAt_25 : decode cX7_commandAt 25 = .ok (.invokevirtual 62, 3) := by decide +kernel
theorem dX7_commandAt_28 : decode cX7_commandAt 28 = .ok (.ifCond .eq 5, 3) := by decide +kernel
theorem dX7_commandAt_31 : decode cX7_commandAt 31 = .ok (.iconst 3, 1) := by decide +kernel
theorem dX7_commandAt_32 : decode cX7_commandAt 32 = .ok (.ireturn, 1) := by decide +kernel
theorem dX7_commandAt_33 : decode cX7_commandAt 33 = .ok (.aload_n 0, 1) := by decide +kernel
theorem dX7_commandAt_34 : decode cX7_commandAt 34 = .ok (.ldc 70, 2) := by decide +kernel
theorem dX7_commandAt_36 : decode cX7_commandAt 36 = .ok (.invokevirtual 62, 3) := by decide +kernel
theorem dX7_commandAt_39 : decode cX7_commandAt 39 = .ok (.ifCond .eq 5, 3) := by decide +kernel
theorem dX7_commandAt_42 : decode cX7_commandAt 42 = .ok (.iconst 4, 1) := by decide +kernel
theorem dX7_commandAt_43 : decode cX7_commandAt 43 = .ok (.ireturn, 1) := by decide +kernel
theorem dX7_commandAt_44 : decode cX7_commandAt 44 = .ok (.aload_n 0, 1) := by decide +kernel
theorem dX7_commandAt_45 : decode cX7_commandAt 45 = .ok (.ldc 72, 2) := by decide +kernel
theorem dX7_commandAt_47 : decode cX7_commandAt 47 = .ok (.invokevirtual 62, 3) := by decide +kernel
theorem dX7_commandAt_50 : decode cX7_commandAt 50 = .ok (.ifCond .eq 5, 3) := by decide +kernel
theorem dX7_commandAt_53 : decode cX7_commandAt 53 = .ok (.iconst 5, 1) := by decide +kernel
theorem dX7_commandAt_54 : decode cX7_commandAt 54 = .ok (.ireturn, 1) := by decide +kernel
theorem dX7_commandAt_55 : decode cX7_commandAt 55 = .ok (.aload_n 0, 1) := by decide +kernel
theorem dX7_commandAt_56 : decode cX7_commandAt 56 = .ok (.ldc 74, 2) := by decide +kernel
theorem dX7_commandAt_58 : decode cX7_commandAt 58 = .ok (.invokevirtual 62, 3) := by decide +kernel
theorem dX7_commandAt_61 : decode cX7_commandAt 61 = .ok (.ifCond .eq 6, 3) := by decide +kernel
theorem dX7_commandAt_64 : decode cX7_commandAt 64 = .ok (.bipush 6, 2) := by decide +kernel
theorem dX7_commandAt_66 : decode cX7_commandAt 66 = .ok (.ireturn, 1) := by decide +kernel
theorem dX7_commandAt_67 : decode cX7_commandAt 67 = .ok (.aload_n 0, 1) := by decide +kernel
theorem dX7_commandAt_68 : decode cX7_commandAt 68 = .ok (.ldc 76, 2) := by decide +kernel
theorem dX7_commandAt_70 : decode cX7_commandAt 70 = .ok (.invokevirtual 62, 3) := by decide +kernel
theorem dX7_commandAt_73 : decode cX7_commandAt 73 = .ok (.ifCond .eq 6, 3) := by decide +kernel
theorem dX7_commandAt_76 : decode cX7_commandAt 76 = .ok (.bipush 7, 2) := by decide +kernel
theorem dX7_commandAt_78 : decode cX7_commandAt 78 = .ok (.ireturn, 1) := by decide +kernel
theorem dX7_commandAt_79 : decode cX7_commandAt 79 = .ok (.aload_n 0, 1) := by decide +kernel
theorem dX7_commandAt_80 : decode cX7_commandAt 80 = .ok (.ldc 78, 2) := by decide +kernel
theorem dX7_commandAt_82 : decode cX7_commandAt 82 = .ok (.invokevirtual 62, 3) := by decide +kernel
theorem dX7_commandAt_85 : decode cX7_commandAt 85 = .ok (.ifCond .eq 8, 3) := by decide +kernel
theorem dX7_commandAt_88 : decode cX7_commandAt 88 = .ok (.bipush 8, 2) := by decide +kernel
theorem dX7_commandAt_90 : decode cX7_commandAt 90 = .ok (.goto 4, 3) := by decide +kernel
theorem dX7_commandAt_93 : decode cX7_commandAt 93 = .ok (.iconst 0, 1) := by decide +kernel
theorem dX7_commandAt_94 : decode cX7_commandAt 94 = .ok (.ireturn, 1) := by decide +kernel
theorem dX8_readInto_0 : decode cX8_readInto 0 = .ok (.aload_n 0, 1) := by decide +kernel
theorem dX8_readInto_1 : decode cX8_readInto 1 = .ok (.invokevirtual 9, 3) := by decide +kernel
theorem dX8_readInto_4 : decode cX8_readInto 4 = .ok (.aload_n 1, 1) := by decide +kernel
theorem dX8_readInto_5 : decode cX8_readInto 5 = .ok (.invokevirtual 14, 3) := by decide +kernel
theorem dX8_readInto_8 : decode cX8_readInto 8 = .ok (.aload_n 0, 1) := by decide +kernel
theorem dX8_readInto_9 : decode cX8_readInto 9 = .ok (.getfield 19, 3) := by decide +kernel
theorem dX8_readInto_12 : decode cX8_readInto 12 = .ok (.aload_n 1, 1) := by decide +kernel
theorem dX8_readInto_13 : decode cX8_readInto 13 = .ok (.invokestatic 23, 3) := by decide +kernel
theorem dX8_readInto_16 : decode cX8_readInto 16 = .ok (.aload_n 0, 1) := by decide +kernel
theorem dX8_readInto_17 : decode cX8_readInto 17 = .ok (.getfield 19, 3) := by decide +kernel
theorem dX8_readInto_20 : decode cX8_readInto 20 = .ok (.aload_n 1, 1) := by decide +kernel
theorem dX8_readInto_21 : decode cX8_readInto 21 = .ok (.invokestatic 29, 3) := by decide +kernel
theorem dX8_readInto_24 : decode cX8_readInto 24 = .ok (.aload_n 0, 1) := by decide +kernel
theorem dX8_readInto_25 : decode cX8_readInto 25 = .ok (.getfield 19, 3) := by decide +kernel
theorem dX8_readInto_28 : decode cX8_readInto 28 = .ok (.aload_n 1, 1) := by decide +kernel
theorem dX8_readInto_29 : decode cX8_readInto 29 = .ok (.invokestatic 32, 3) := by decide +kernel
theorem dX8_readInto_32 : decode cX8_readInto 32 = .ok (.aload_n 0, 1) := by decide +kernel
theorem dX8_readInto_33 : decode cX8_readInto 33 = .ok (.aload_n 1, 1) := by decide +kernel
theorem dX8_readInto_34 : decode cX8_readInto 34 = .ok (.invokestatic 35, 3) := by decide +kernel
theorem dX8_readInto_37 : decode cX8_readInto 37 = .ok (.aload_n 1, 1) := by decide +kernel
theorem dX8_readInto_38 : decode cX8_readInto 38 = .ok (.invokevirtual 39, 3) := by decide +kernel
theorem dX8_readInto_41 : decode cX8_readInto 41 = .ok (.return_, 1) := by decide +kernel
theorem dX8_readField_0 : decode cX8_readField 0 = .ok (.aload_n 1, 1) := by decide +kernel
theorem dX8_readField_1 : decode cX8_readField 1 = .ok (.ldc 42, 2) := by decide +kernel
theorem dX8_readField_3 : decode cX8_readField 3 = .ok (.invokevirtual 43, 3) := by decide +kernel
theorem dX8_readField_6 : decode cX8_readField 6 = .ok (.aload_n 0, 1) := by decide +kernel
theorem dX8_readField_7 : decode cX8_readField 7 = .ok (.aload_n 1, 1) := by decide +kernel
theorem dX8_readField_8 : decode cX8_readField 8 = .ok (.bipush 10, 2) := by decide +kernel
theorem dX8_readField_10 : decode cX8_readField 10 = .ok (.bipush 100, 2) := by decide +kernel
theorem dX8_readField_12 : decode cX8_readField 12 = .ok (.invokevirtual 47, 3) := by decide +kernel
theorem dX8_readField_15 : decode cX8_readField 15 = .ok (.putfield 51, 3) := by decide +kernel
theorem dX8_readField_18 : decode cX8_readField 18 = .ok (.aload_n 0, 1) := by decide +kernel
theorem dX8_readField_19 : decode cX8_readField 19 = .ok (.aload_n 1, 1) := by decide +kernel
theorem dX8_readField_20 : decode cX8_readField 20 = .ok (.bipush 10, 2) := by decide +kernel
theorem dX8_readField_22 : decode cX8_readField 22 = .ok (.bipush 100, 2) := by decide +kernel
theorem dX8_readField_24 : decode cX8_readField 24 = .ok (.invokevirtual 47, 3) := by decide +kernel
theorem dX8_readField_27 : decode cX8_readField 27 = .ok (.putfield 57, 3) := by decide +kernel
theorem dX8_readField_30 : decode cX8_readField 30 = .ok (.aload_n 0, 1) := by decide +kernel
theorem dX8_readField_31 : decode cX8_readField 31 = .ok (.aload_n 1, 1) := by decide +kernel
theorem dX8_readField_32 : decode cX8_readField 32 = .ok (.iconst 0, 1) := by decide +kernel
theorem dX8_readField_33 : decode cX8_readField 33 = .ok (.bipush 20, 2) := by decide +kernel
theorem dX8_readField_35 : decode cX8_readField 35 = .ok (.invokevirtual 47, 3) := by decide +kernel
theorem dX8_readField_38 : decode cX8_readField 38 = .ok (.putfield 60, 3) := by decide +kernel
theorem dX8_readField_41 : decode cX8_readField 41 = .ok (.aload_n 0, 1) := by decide +kernel
theorem dX8_readField_42 : decode cX8_readField 42 = .ok (.aload_n 1, 1) := by decide +kernel
theorem dX8_readField_43 : decode cX8_readField 43 = .ok (.iconst 0, 1) := by decide +kernel
theorem dX8_readField_44 : decode cX8_readField 44 = .ok (.bipush 50, 2) := by decide +kernel
theorem dX8_readField_46 : decode cX8_readField 46 = .ok (.invokevirtual 47, 3) := by decide +kernel
theorem dX8_readField_49 : decode cX8_readField 49 = .ok (.putfield 63, 3) := by decide +kernel
theorem dX8_readField_52 : decode cX8_readField 52 = .ok (.aload_n 1, 1) := by decide +kernel
theorem dX8_readField_53 : decode cX8_readField 53 = .ok (.invokevirtual 66, 3) := by decide +kernel
theorem dX8_readField_56 : decode cX8_readField 56 = .ok (.return_, 1) := by decide +kernel
theorem dX8_readZones_0 : decode cX8_readZones 0 = .ok (.iconst 0, 1) := by decide +kernel
theorem dX8_readZones_1 : decode cX8_readZones 1 = .ok (.istore_n 2, 1) := by decide +kernel
theorem dX8_readZones_2 : decode cX8_readZones 2 = .ok (.iload_n 2, 1) := by decide +kernel
theorem dX8_readZones_3 : decode cX8_readZones 3 = .ok (.iconst 4, 1) := by decide +kernel
theorem dX8_readZones_4 : decode cX8_readZones 4 = .ok (.if_icmp .ge 41, 3) := by decide +kernel
theorem dX8_readZones_7 : decode cX8_readZones 7 = .ok (.iload_n 2, 1) := by decide +kernel
theorem dX8_readZones_8 : decode cX8_readZones 8 = .ok (.ifCond .eq 12, 3) := by decide +kernel
theorem dX8_readZones_11 : decode cX8_readZones 11 = .ok (.aload_n 1, 1) := by decide +kernel
theorem dX8_readZones_12 : decode cX8_readZones 12 = .ok (.ldc 69, 2) := by decide +kernel
theorem dX8_readZones_14 : decode cX8_readZones 14 = .ok (.invokevirtual 71, 3) := by decide +kernel
theorem dX8_readZones_17 : decode cX8_readZones 17 = .ok (.ifCond .eq 28, 3) := by decide +kernel
theorem dX8_readZones_20 : decode cX8_readZones 20 = .ok (.aload_n 1, 1) := by decide +kernel
theorem dX8_readZones_21 : decode cX8_readZones 21 = .ok (.ldc 69, 2) := by decide +kernel
theorem dX8_readZones_23 : decode cX8_readZones 23 = .ok (.invokevirtual 43, 3) := by decide +kernel
theorem dX8_readZones_26 : decode cX8_readZones 26 = .ok (.aload_n 0, 1) := by decide +kernel
theorem dX8_readZones_27 : decode cX8_readZones 27 = .ok (.invokevirtual 75, 3) := by decide +kernel
theorem dX8_readZones_30 : decode cX8_readZones 30 = .ok (.aload_n 0, 1) := by decide +kernel
theorem dX8_readZones_31 : decode cX8_readZones 31 = .ok (.aload_n 1, 1) := by decide +kernel
theorem dX8_readZones_32 : decode cX8_readZones 32 = .ok (.invokestatic 78, 3) := by decide +kernel
theorem dX8_readZones_35 : decode cX8_readZones 35 = .ok (.aload_n 1, 1) := by decide +kernel
theorem dX8_readZones_36 : decode cX8_readZones 36 = .ok (.invokevirtual 66, 3) := by decide +kernel
theorem dX8_readZones_39 : decode cX8_readZones 39 = .ok (.iinc 2 1, 3) := by decide +kernel
theorem dX8_readZones_42 : decode cX8_readZones 42 = .ok (.goto (-40), 3) := by decide +kernel
theorem dX8_readZones_45 : decode cX8_readZones 45 = .ok (.aload_n 1, 1) := by decide +kernel
theorem dX8_readZones_46 : decode cX8_readZones 46 = .ok (.ldc 69, 2) := by decide +kernel
theorem dX8_readZones_48 : decode cX8_readZones 48 = .ok (.invokevirtual 71, 3) := by decide +kernel
theorem dX8_readZones_51 : decode cX8_readZones 51 = .ok (.ifCond .eq 8, 3) := by decide +kernel
theorem dX8_readZones_54 : decode cX8_readZones 54 = .ok (.aload_n 1, 1) := by decide +kernel
theorem dX8_readZones_55 : decode cX8_readZones 55 = .ok (.iconst 3, 1) := by decide +kernel
theorem dX8_readZones_56 : decode cX8_readZones 56 = .ok (.invokevirtual 81, 3) := by decide +kernel
theorem dX8_readZones_59 : decode cX8_readZones 59 = .ok (.return_, 1) := by decide +kernel
theorem dX8_readWinds_0 : decode cX8_readWinds 0 = .ok (.iconst 0, 1) := by decide +kernel
theorem dX8_readWinds_1 : decode cX8_readWinds 1 = .ok (.istore_n 2, 1) := by decide +kernel
theorem dX8_readWinds_2 : decode cX8_readWinds 2 = .ok (.iload_n 2, 1) := by decide +kernel
theorem dX8_readWinds_3 : decode cX8_readWinds 3 = .ok (.bipush 6, 2) := by decide +kernel
theorem dX8_readWinds_5 : decode cX8_readWinds 5 = .ok (.if_icmp .ge 44, 3) := by decide +kernel
theorem dX8_readWinds_8 : decode cX8_readWinds 8 = .ok (.iload_n 2, 1) := by decide +kernel
theorem dX8_readWinds_9 : decode cX8_readWinds 9 = .ok (.ifCond .eq 10, 3) := by decide +kernel
theorem dX8_readWinds_12 : decode cX8_readWinds 12 = .ok (.aload_n 1, 1) := by decide +kernel
theorem dX8_readWinds_13 : decode cX8_readWinds 13 = .ok (.invokevirtual 85, 3) := by decide +kernel
theorem dX8_readWinds_16 : decode cX8_readWinds 16 = .ok (.ifCond .eq 33, 3) := by decide +kernel
theorem dX8_readWinds_19 : decode cX8_readWinds 19 = .ok (.aload_n 1, 1) := by decide +kernel
theorem dX8_readWinds_20 : decode cX8_readWinds 20 = .ok (.iconst 0, 1) := by decide +kernel
theorem dX8_readWinds_21 : decode cX8_readWinds 21 = .ok (.bipush 7, 2) := by decide +kernel
theorem dX8_readWinds_23 : decode cX8_readWinds 23 = .ok (.invokevirtual 47, 3) := by decide +kernel
theorem dX8_readWinds_26 : decode cX8_readWinds 26 = .ok (.istore_n 3, 1) := by decide +kernel
theorem dX8_readWinds_27 : decode cX8_readWinds 27 = .ok (.aload_n 1, 1) := by decide +kernel
theorem dX8_readWinds_28 : decode cX8_readWinds 28 = .ok (.iconst 0, 1) := by decide +kernel
theorem dX8_readWinds_29 : decode cX8_readWinds 29 = .ok (.bipush 9, 2) := by decide +kernel
theorem dX8_readWinds_31 : decode cX8_readWinds 31 = .ok (.invokevirtual 47, 3) := by decide +kernel
theorem dX8_readWinds_34 : decode cX8_readWinds 34 = .ok (.istore 4, 2) := by decide +kernel
theorem dX8_readWinds_36 : decode cX8_readWinds 36 = .ok (.aload_n 0, 1) := by decide +kernel
theorem dX8_readWinds_37 : decode cX8_readWinds 37 = .ok (.iload_n 3, 1) := by decide +kernel
theorem dX8_readWinds_38 : decode cX8_readWinds 38 = .ok (.iload 4, 2) := by decide +kernel
theorem dX8_readWinds_40 : decode cX8_readWinds 40 = .ok (.invokevirtual 89, 3) := by decide +kernel
theorem dX8_readWinds_43 : decode cX8_readWinds 43 = .ok (.iinc 2 1, 3) := by decide +kernel
theorem dX8_readWinds_46 : decode cX8_readWinds 46 = .ok (.goto (-44), 3) := by decide +kernel
theorem dX8_readWinds_49 : decode cX8_readWinds 49 = .ok (.aload_n 1, 1) := by decide +kernel
theorem dX8_readWinds_50 : decode cX8_readWinds 50 = .ok (.invokevirtual 85, 3) := by decide +kernel
theorem dX8_readWinds_53 : decode cX8_readWinds 53 = .ok (.ifCond .eq 21, 3) := by decide +kernel
theorem dX8_readWinds_56 : decode cX8_readWinds 56 = .ok (.aload_n 1, 1) := by decide +kernel
theorem dX8_readWinds_57 : decode cX8_readWinds 57 = .ok (.aload_n 1, 1) := by decide +kernel
theorem dX8_readWinds_58 : decode cX8_readWinds 58 = .ok (.getfield 93, 3) := by decide +kernel
theorem dX8_readWinds_61 : decode cX8_readWinds 61 = .ok (.bipush 7, 2) := by decide +kernel
theorem dX8_readWinds_63 : decode cX8_readWinds 63 = .ok (.if_icmp .le 7, 3) := by decide +kernel
theorem dX8_readWinds_66 : decode cX8_readWinds 66 = .ok (.iconst 2, 1) := by decide +kernel
theorem dX8_readWinds_67 : decode cX8_readWinds 67 = .ok (.goto 4, 3) := by decide +kernel
theorem dX8_readWinds_70 : decode cX8_readWinds 70 = .ok (.iconst 3, 1) := by decide +kernel
theorem dX8_readWinds_71 : decode cX8_readWinds 71 = .ok (.invokevirtual 81, 3) := by decide +kernel
theorem dX8_readWinds_74 : decode cX8_readWinds 74 = .ok (.return_, 1) := by decide +kernel
theorem dX8_readColours_0 : decode cX8_readColours 0 = .ok (.iconst 0, 1) := by decide +kernel
theorem dX8_readColours_1 : decode cX8_readColours 1 = .ok (.istore_n 2, 1) := by decide +kernel
theorem dX8_readColours_2 : decode cX8_readColours 2 = .ok (.iload_n 2, 1) := by decide +kernel
theorem dX8_readColours_3 : decode cX8_readColours 3 = .ok (.bipush 6, 2) := by decide +kernel
theorem dX8_readColours_5 : decode cX8_readColours 5 = .ok (.if_icmp .ge 43, 3) := by decide +kernel
theorem dX8_readColours_8 : decode cX8_readColours 8 = .ok (.iload_n 2, 1) := by decide +kernel
theorem dX8_readColours_9 : decode cX8_readColours 9 = .ok (.ifCond .eq 12, 3) := by decide +kernel
theorem dX8_readColours_12 : decode cX8_readColours 12 = .ok (.aload_n 1, 1) := by decide +kernel
theorem dX8_readColours_13 : decode cX8_readColours 13 = .ok (.ldc 96, 2) := by decide +kernel
theorem dX8_readColours_15 : decode cX8_readColours 15 = .ok (.invokevirtual 71, 3) := by decide +kernel
theorem dX8_readColours_18 : decode cX8_readColours 18 = .ok (.ifCond .eq 30, 3) := by decide +kernel
theorem dX8_readColours_21 : decode cX8_readColours 21 = .ok (.aload_n 1, 1) := by decide +kernel
theorem dX8_readColours_22 : decode cX8_readColours 22 = .ok (.ldc 96, 2) := by decide +kernel
theorem dX8_readColours_24 : decode cX8_readColours 24 = .ok (.invokevirtual 43, 3) := by decide +kernel
theorem dX8_readColours_27 : decode cX8_readColours 27 = .ok (.aload_n 0, 1) := by decide +kernel
theorem dX8_readColours_28 : decode cX8_readColours 28 = .ok (.aload_n 1, 1) := by decide +kernel
theorem dX8_readColours_29 : decode cX8_readColours 29 = .ok (.iconst 0, 1) := by decide +kernel
theorem dX8_readColours_30 : decode cX8_readColours 30 = .ok (.bipush 9, 2) := by decide +kernel
theorem dX8_readColours_32 : decode cX8_readColours 32 = .ok (.invokevirtual 47, 3) := by decide +kernel
theorem dX8_readColours_35 : decode cX8_readColours 35 = .ok (.invokevirtual 98, 3) := by decide +kernel
theorem dX8_readColours_38 : decode cX8_readColours 38 = .ok (.aload_n 1, 1) := by decide +kernel
theorem dX8_readColours_39 : decode cX8_readColours 39 = .ok (.invokevirtual 66, 3) := by decide +kernel
theorem dX8_readColours_42 : decode cX8_readColours 42 = .ok (.iinc 2 1, 3) := by decide +kernel
theorem dX8_readColours_45 : decode cX8_readColours 45 = .ok (.goto (-43), 3) := by decide +kernel
theorem dX8_readColours_48 : decode cX8_readColours 48 = .ok (.aload_n 1, 1) := by decide +kernel
theorem dX8_readColours_49 : decode cX8_readColours 49 = .ok (.ldc 96, 2) := by decide +kernel
theorem dX8_readColours_51 : decode cX8_readColours 51 = .ok (.invokevirtual 71, 3) := by decide +kernel
theorem dX8_readColours_54 : decode cX8_readColours 54 = .ok (.ifCond .eq 8, 3) := by decide +kernel
theorem dX8_readColours_57 : decode cX8_readColours 57 = .ok (.aload_n 1, 1) := by decide +kernel
theorem dX8_readColours_58 : decode cX8_readColours 58 = .ok (.iconst 3, 1) := by decide +kernel
theorem dX8_readColours_59 : decode cX8_readColours 59 = .ok (.invokevirtual 81, 3) := by decide +kernel
theorem dX8_readColours_62 : decode cX8_readColours 62 = .ok (.return_, 1) := by decide +kernel
theorem dX8_readKites_0 : decode cX8_readKites 0 = .ok (.iconst 0, 1) := by decide +kernel
theorem dX8_readKites_1 : decode cX8_readKites 1 = .ok (.istore_n 2, 1) := by decide +kernel
theorem dX8_readKites_2 : decode cX8_readKites 2 = .ok (.iload_n 2, 1) := by decide +kernel
theorem dX8_readKites_3 : decode cX8_readKites 3 = .ok (.bipush 16, 2) := by decide +kernel
theorem dX8_readKites_5 : decode cX8_readKites 5 = .ok (.if_icmp .ge 119, 3) := by decide +kernel
theorem dX8_readKites_8 : decode cX8_readKites 8 = .ok (.aload_n 1, 1) := by decide +kernel
theorem dX8_readKites_9 : decode cX8_readKites 9 = .ok (.ldc 101, 2) := by decide +kernel
theorem dX8_readKites_11 : decode cX8_readKites 11 = .ok (.invokevirtual 71, 3) := by decide +kernel
theorem dX8_readKites_14 : decode cX8_readKites 14 = .ok (.ifCond .eq 110, 3) := by decide +kernel
theorem dX8_readKites_17 : decode cX8_readKites 17 = .ok (.aload_n 1, 1) := by decide +kernel
theorem dX8_readKites_18 : decode cX8_readKites 18 = .ok (.ldc 101, 2) := by decide +kernel
theorem dX8_readKites_20 : decode cX8_readKites 20 = .ok (.invokevirtual 43, 3) := by decide +kernel
theorem dX8_readKites_23 : decode cX8_readKites 23 = .ok (.aload_n 1, 1) := by decide +kernel
theorem dX8_readKites_24 : decode cX8_readKites 24 = .ok (.iconst 0, 1) := by decide +kernel
theorem dX8_readKites_25 : decode cX8_readKites 25 = .ok (.aload_n 0, 1) := by decide +kernel
theorem dX8_readKites_26 : decode cX8_readKites 26 = .ok (.getfield 19, 3) := by decide +kernel
theorem dX8_readKites_29 : decode cX8_readKites 29 = .ok (.getfield 51, 3) := by decide +kernel
theorem dX8_readKites_32 : decode cX8_readKites 32 = .ok (.iconst 1, 1) := by decide +kernel
theorem dX8_readKites_33 : decode cX8_readKites 33 = .ok (.isub, 1) := by decide +kernel
theorem dX8_readKites_34 : decode cX8_readKites 34 = .ok (.invokevirtual 47, 3) := by decide +kernel
theorem dX8_readKites_37 : decode cX8_readKites 37 = .ok (.istore_n 3, 1) := by decide +kernel
theorem dX8_readKites_38 : decode cX8_readKites 38 = .ok (.aload_n 1, 1) := by decide +kernel
theorem dX8_readKites_39 : decode cX8_readKites 39 = .ok (.iconst 0, 1) := by decide +kernel
theorem dX8_readKites_40 : decode cX8_readKites 40 = .ok (.aload_n 0, 1) := by decide +kernel
theorem dX8_readKites_41 : decode cX8_readKites 41 = .ok (.getfield 19, 3) := by decide +kernel
theorem dX8_readKites_44 : decode cX8_readKites 44 = .ok (.getfield 57, 3) := by decide +kernel
theorem dX8_readKites_47 : decode cX8_readKites 47 = .ok (.iconst 1, 1) := by decide +kernel
theorem dX8_readKites_48 : decode cX8_readKites 48 = .ok (.isub, 1) := by decide +kernel
theorem dX8_readKites_49 : decode cX8_readKites 49 = .ok (.invokevirtual 47, 3) := by decide +kernel
theorem dX8_readKites_52 : decode cX8_readKites 52 = .ok (.istore 4, 2) := by decide +kernel
theorem dX8_readKites_54 : decode cX8_readKites 54 = .ok (.aload_n 1, 1) := by decide +kernel
theorem dX8_readKites_55 : decode cX8_readKites 55 = .ok (.iconst 1, 1) := by decide +kernel
theorem dX8_readKites_56 : decode cX8_readKites 56 = .ok (.bipush 60, 2) := by decide +kernel
theorem dX8_readKites_58 : decode cX8_readKites 58 = .ok (.invokevirtual 47, 3) := by decide +kernel
theorem dX8_readKites_61 : decode cX8_readKites 61 = .ok (.istore 5, 2) := by decide +kernel
theorem dX8_readKites_63 : decode cX8_readKites 63 = .ok (.aload_n 1, 1) := by decide +kernel
theorem dX8_readKites_64 : decode cX8_readKites 64 = .ok (.iconst 0, 1) := by decide +kernel
theorem dX8_readKites_65 : decode cX8_readKites 65 = .ok (.aload_n 0, 1) := by decide +kernel
theorem dX8_readKites_66 : decode cX8_readKites 66 = .ok (.getfield 19, 3) := by decide +kernel
theorem dX8_readKites_69 : decode cX8_readKites 69 = .ok (.getfield 103, 3) := by decide +kernel
theorem dX8_readKites_72 : decode cX8_readKites 72 = .ok (.iconst 1, 1) := by decide +kernel
theorem dX8_readKites_73 : decode cX8_readKites 73 = .ok (.isub, 1) := by decide +kernel
theorem dX8_readKites_74 : decode cX8_readKites 74 = .ok (.invokevirtual 47, 3) := by decide +kernel
theorem dX8_readKites_77 : decode cX8_readKites 77 = .ok (.istore 6, 2) := by decide +kernel
theorem dX8_readKites_79 : decode cX8_readKites 79 = .ok (.aload_n 1, 1) := by decide +kernel
theorem dX8_readKites_80 : decode cX8_readKites 80 = .ok (.iconst 0, 1) := by decide +kernel
theorem dX8_readKites_81 : decode cX8_readKites 81 = .ok (.bipush 9, 2) := by decide +kernel
theorem dX8_readKites_83 : decode cX8_readKites 83 = .ok (.invokevirtual 47, 3) := by decide +kernel
theorem dX8_readKites_86 : decode cX8_readKites 86 = .ok (.istore 7, 2) := by decide +kernel
theorem dX8_readKites_88 : decode cX8_readKites 88 = .ok (.aload_n 1, 1) := by decide +kernel
theorem dX8_readKites_89 : decode cX8_readKites 89 = .ok (.iconst 0, 1) := by decide +kernel
theorem dX8_readKites_90 : decode cX8_readKites 90 = .ok (.sipush 999, 3) := by decide +kernel
theorem dX8_readKites_93 : decode cX8_readKites 93 = .ok (.invokevirtual 47, 3) := by decide +kernel
theorem dX8_readKites_96 : decode cX8_readKites 96 = .ok (.istore 8, 2) := by decide +kernel
theorem dX8_readKites_98 : decode cX8_readKites 98 = .ok (.aload_n 1, 1) := by decide +kernel
theorem dX8_readKites_99 : decode cX8_readKites 99 = .ok (.invokevirtual 66, 3) := by decide +kernel
theorem dX8_readKites_102 : decode cX8_readKites 102 = .ok (.aload_n 0, 1) := by decide +kernel
theorem dX8_readKites_103 : decode cX8_readKites 103 = .ok (.iload_n 3, 1) := by decide +kernel
theorem dX8_readKites_104 : decode cX8_readKites 104 = .ok (.iload 4, 2) := by decide +kernel
theorem dX8_readKites_106 : decode cX8_readKites 106 = .ok (.iload 5, 2) := by decide +kernel
theorem dX8_readKites_108 : decode cX8_readKites 108 = .ok (.iload 6, 2) := by decide +kernel
theorem dX8_readKites_110 : decode cX8_readKites 110 = .ok (.iload 7, 2) := by decide +kernel
theorem dX8_readKites_112 : decode cX8_readKites 112 = .ok (.iload 8, 2) := by decide +kernel
theorem dX8_readKites_114 : decode cX8_readKites 114 = .ok (.invokevirtual 106, 3) := by decide +kernel
theorem dX8_readKites_117 : decode cX8_readKites 117 = .ok (.pop, 1) := by decide +kernel
theorem dX8_readKites_118 : decode cX8_readKites 118 = .ok (.iinc 2 1, 3) := by decide +kernel
theorem dX8_readKites_121 : decode cX8_readKites 121 = .ok (.goto (-119), 3) := by decide +kernel
theorem dX8_readKites_124 : decode cX8_readKites 124 = .ok (.aload_n 1, 1) := by decide +kernel
theorem dX8_readKites_125 : decode cX8_readKites 125 = .ok (.ldc 101, 2) := by decide +kernel
theorem dX8_readKites_127 : decode cX8_readKites 127 = .ok (.invokevirtual 71, 3) := by decide +kernel
theorem dX8_readKites_130 : decode cX8_readKites 130 = .ok (.ifCond .eq 8, 3) := by decide +kernel
theorem dX8_readKites_133 : decode cX8_readKites 133 = .ok (.aload_n 1, 1) := by decide +kernel
theorem dX8_readKites_134 : decode cX8_readKites 134 = .ok (.iconst 3, 1) := by decide +kernel
theorem dX8_readKites_135 : decode cX8_readKites 135 = .ok (.invokevirtual 81, 3) := by decide +kernel
theorem dX8_readKites_138 : decode cX8_readKites 138 = .ok (.return_, 1) := by decide +kernel
theorem dX9_init_0 : decode cX9_init 0 = .ok (.aload_n 0, 1) := by decide +kernel
theorem dX9_init_1 : decode cX9_init 1 = .ok (.invokespecial 1, 3) := by decide +kernel
theorem dX9_init_4 : decode cX9_init 4 = .ok (.aload_n 0, 1) := by decide +kernel
theorem dX9_init_5 : decode cX9_init 5 = .ok (.invokestatic 7, 3) := by decide +kernel
theorem dX9_init_8 : decode cX9_init 8 = .ok (.putfield 13, 3) := by decide +kernel
theorem dX9_init_11 : decode cX9_init 11 = .ok (.aload_n 0, 1) := by decide +kernel
theorem dX9_init_12 : decode cX9_init 12 = .ok (.new 17, 3) := by decide +kernel
theorem dX9_init_15 : decode cX9_init 15 = .ok (.dup, 1) := by decide +kernel
theorem dX9_init_16 : decode cX9_init 16 = .ok (.invokespecial 19, 3) := by decide +kernel
theorem dX9_init_19 : decode cX9_init 19 = .ok (.putfield 20, 3) := by decide +kernel
theorem dX9_init_22 : decode cX9_init 22 = .ok (.aload_n 0, 1) := by decide +kernel
theorem dX9_init_23 : decode cX9_init 23 = .ok (.new 23, 3) := by decide +kernel
theorem dX9_init_26 : decode cX9_init 26 = .ok (.dup, 1) := by decide +kernel
theorem dX9_init_27 : decode cX9_init 27 = .ok (.invokespecial 25, 3) := by decide +kernel
theorem dX9_init_30 : decode cX9_init 30 = .ok (.putfield 26, 3) := by decide +kernel
theorem dX9_init_33 : decode cX9_init 33 = .ok (.aload_n 0, 1) := by decide +kernel
theorem dX9_init_34 : decode cX9_init 34 = .ok (.iconst 2, 1) := by decide +kernel
theorem dX9_init_35 : decode cX9_init 35 = .ok (.anewarray 17, 3) := by decide +kernel
theorem dX9_init_38 : decode cX9_init 38 = .ok (.putfield 30, 3) := by decide +kernel
theorem dX9_init_41 : decode cX9_init 41 = .ok (.iconst 0, 1) := by decide +kernel
theorem dX9_init_42 : decode cX9_init 42 = .ok (.istore_n 1, 1) := by decide +kernel
theorem dX9_init_43 : decode cX9_init 43 = .ok (.iload_n 1, 1) := by decide +kernel
theorem dX9_init_44 : decode cX9_init 44 = .ok (.iconst 2, 1) := by decide +kernel
theorem dX9_init_45 : decode cX9_init 45 = .ok (.if_icmp .ge 22, 3) := by decide +kernel
theorem dX9_init_48 : decode cX9_init 48 = .ok (.aload_n 0, 1) := by decide +kernel
theorem dX9_init_49 : decode cX9_init 49 = .ok (.getfield 30, 3) := by decide +kernel
theorem dX9_init_52 : decode cX9_init 52 = .ok (.iload_n 1, 1) := by decide +kernel
theorem dX9_init_53 : decode cX9_init 53 = .ok (.new 17, 3) := by decide +kernel
theorem dX9_init_56 : decode cX9_init 56 = .ok (.dup, 1) := by decide +kernel
theorem dX9_init_57 : decode cX9_init 57 = .ok (.invokespecial 19, 3) := by decide +kernel
theorem dX9_init_60 : decode cX9_init 60 = .ok (.aastore, 1) := by decide +kernel
theorem dX9_init_61 : decode cX9_init 61 = .ok (.iinc 1 1, 3) := by decide +kernel
theorem dX9_init_64 : decode cX9_init 64 = .ok (.goto (-21), 3) := by decide +kernel
theorem dX9_init_67 : decode cX9_init 67 = .ok (.aload_n 0, 1) := by decide +kernel
theorem dX9_init_68 : decode cX9_init 68 = .ok (.iconst 2, 1) := by decide +kernel
theorem dX9_init_69 : decode cX9_init 69 = .ok (.newarray .boolean, 2) := by decide +kernel
theorem dX9_init_71 : decode cX9_init 71 = .ok (.putfield 34, 3) := by decide +kernel
theorem dX9_init_74 : decode cX9_init 74 = .ok (.aload_n 0, 1) := by decide +kernel
theorem dX9_init_75 : decode cX9_init 75 = .ok (.new 38, 3) := by decide +kernel
theorem dX9_init_78 : decode cX9_init 78 = .ok (.dup, 1) := by decide +kernel
theorem dX9_init_79 : decode cX9_init 79 = .ok (.invokespecial 40, 3) := by decide +kernel
theorem dX9_init_82 : decode cX9_init 82 = .ok (.putfield 41, 3) := by decide +kernel
theorem dX9_init_85 : decode cX9_init 85 = .ok (.aload_n 0, 1) := by decide +kernel
theorem dX9_init_86 : decode cX9_init 86 = .ok (.new 45, 3) := by decide +kernel
theorem dX9_init_89 : decode cX9_init 89 = .ok (.dup, 1) := by decide +kernel
theorem dX9_init_90 : decode cX9_init 90 = .ok (.invokespecial 47, 3) := by decide +kernel
theorem dX9_init_93 : decode cX9_init 93 = .ok (.putfield 48, 3) := by decide +kernel
theorem dX9_init_96 : decode cX9_init 96 = .ok (.aload_n 0, 1) := by decide +kernel
theorem dX9_init_97 : decode cX9_init 97 = .ok (.new 52, 3) := by decide +kernel
theorem dX9_init_100 : decode cX9_init 100 = .ok (.dup, 1) := by decide +kernel
theorem dX9_init_101 : decode cX9_init 101 = .ok (.invokespecial 54, 3) := by decide +kernel
theorem dX9_init_104 : decode cX9_init 104 = .ok (.putfield 55, 3) := by decide +kernel
theorem dX9_init_107 : decode cX9_init 107 = .ok (.return_, 1) := by decide +kernel
theorem dX9_firstOffice_0 : decode cX9_firstOffice 0 = .ok (.new 17, 3) := by decide +kernel
theorem dX9_firstOffice_3 : decode cX9_firstOffice 3 = .ok (.dup, 1) := by decide +kernel
theorem dX9_firstOffice_4 : decode cX9_firstOffice 4 = .ok (.invokespecial 19, 3) := by decide +kernel
theorem dX9_firstOffice_7 : decode cX9_firstOffice 7 = .ok (.astore_n 0, 1) := by decide +kernel
theorem dX9_firstOffice_8 : decode cX9_firstOffice 8 = .ok (.aload_n 0, 1) := by decide +kernel
theorem dX9_firstOffice_9 : decode cX9_firstOffice 9 = .ok (.getfield 59, 3) := by decide +kernel
theorem dX9_firstOffice_12 : decode cX9_firstOffice 12 = .ok (.bipush 40, 2) := by decide +kernel
theorem dX9_firstOffice_14 : decode cX9_firstOffice 14 = .ok (.putfield 63, 3) := by decide +kernel
theorem dX9_firstOffice_17 : decode cX9_firstOffice 17 = .ok (.aload_n 0, 1) := by decide +kernel
theorem dX9_firstOffice_18 : decode cX9_firstOffice 18 = .ok (.getfield 59, 3) := by decide +kernel
theorem dX9_firstOffice_21 : decode cX9_firstOffice 21 = .ok (.bipush 30, 2) := by decide +kernel
theorem dX9_firstOffice_23 : decode cX9_firstOffice 23 = .ok (.putfield 69, 3) := by decide +kernel
theorem dX9_firstOffice_26 : decode cX9_firstOffice 26 = .ok (.aload_n 0, 1) := by decide +kernel
theorem dX9_firstOffice_27 : decode cX9_firstOffice 27 = .ok (.getfield 59, 3) := by decide +kernel
theorem dX9_firstOffice_30 : decode cX9_firstOffice 30 = .ok (.iconst 2, 1) := by decide +kernel
theorem dX9_firstOffice_31 : decode cX9_firstOffice 31 = .ok (.putfield 72, 3) := by decide +kernel
theorem dX9_firstOffice_34 : decode cX9_firstOffice 34 = .ok (.aload_n 0, 1) := by decide +kernel
theorem dX9_firstOffice_35 : decode cX9_firstOffice 35 = .ok (.getfield 59, 3) := by decide +kernel
theorem dX9_firstOffice_38 : decode cX9_firstOffice 38 = .ok (.bipush 10, 2) := by decide +kernel
theorem dX9_firstOffice_40 : decode cX9_firstOffice 40 = .ok (.putfield 75, 3) := by decide +kernel
theorem dX9_firstOffice_43 : decode cX9_firstOffice 43 = .ok (.aload_n 0, 1) := by decide +kernel
theorem dX9_firstOffice_44 : decode cX9_firstOffice 44 = .ok (.getfield 59, 3) := by decide +kernel
theorem dX9_firstOffice_47 : decode cX9_firstOffice 47 = .ok (.invokevirtual 78, 3) := by decide +kernel
theorem dX9_firstOffice_50 : decode cX9_firstOffice 50 = .ok (.aload_n 0, 1) := by decide +kernel
theorem dX9_firstOffice_51 : decode cX9_firstOffice 51 = .ok (.getfield 59, 3) := by decide +kernel
theorem dX9_firstOffice_54 : decode cX9_firstOffice 54 = .ok (.iconst 2, 1) := by decide +kernel
theorem dX9_firstOffice_55 : decode cX9_firstOffice 55 = .ok (.iconst 3, 1) := by decide +kernel
theorem dX9_firstOffice_56 : decode cX9_firstOffice 56 = .ok (.invokevirtual 81, 3) := by decide +kernel
theorem dX9_firstOffice_59 : decode cX9_firstOffice 59 = .ok (.aload_n 0, 1) := by decide +kernel
theorem dX9_firstOffice_60 : decode cX9_firstOffice 60 = .ok (.getfield 59, 3) := by decide +kernel
theorem dX9_firstOffice_63 : decode cX9_firstOffice 63 = .ok (.iconst 0, 1) := by decide +kernel
theorem dX9_firstOffice_64 : decode cX9_firstOffice 64 = .ok (.iconst 5, 1) := by decide +kernel
theorem dX9_firstOffice_65 : decode cX9_firstOffice 65 = .ok (.invokevirtual 81, 3) := by decide +kernel
theorem dX9_firstOffice_68 : decode cX9_firstOffice 68 = .ok (.aload_n 0, 1) := by decide +kernel
theorem dX9_firstOffice_69 : decode cX9_firstOffice 69 = .ok (.getfield 59, 3) := by decide +kernel
theorem dX9_firstOffice_72 : decode cX9_firstOffice 72 = .ok (.invokevirtual 78, 3) := by decide +kernel
theorem dX9_firstOffice_75 : decode cX9_firstOffice 75 = .ok (.aload_n 0, 1) := by decide +kernel
theorem dX9_firstOffice_76 : decode cX9_firstOffice 76 = .ok (.getfield 59, 3) := by decide +kernel
theorem dX9_firstOffice_79 : decode cX9_firstOffice 79 = .ok (.bipush 6, 2) := by decide +kernel
theorem dX9_firstOffice_81 : decode cX9_firstOffice 81 = .ok (.iconst 4, 1) := by decide +kernel
theorem dX9_firstOffice_82 : decode cX9_firstOffice 82 = .ok (.invokevirtual 81, 3) := by decide +kernel
theorem dX9_firstOffice_85 : decode cX9_firstOffice 85 = .ok (.aload_n 0, 1) := by decide +kernel
theorem dX9_firstOffice_86 : decode cX9_firstOffice 86 = .ok (.getfield 59, 3) := by decide +kernel
theorem dX9_firstOffice_89 : decode cX9_firstOffice 89 = .ok (.iconst 2, 1) := by decide +kernel
theorem dX9_firstOffice_90 : decode cX9_firstOffice 90 = .ok (.invokevirtual 85, 3) := by decide +kernel
theorem dX9_firstOffice_93 : decode cX9_firstOffice 93 = .ok (.aload_n 0, 1) := by decide +kernel
theorem dX9_firstOffice_94 : decode cX9_firstOffice 94 = .ok (.getfield 59, 3) := by decide +kernel
theorem dX9_firstOffice_97 : decode cX9_firstOffice 97 = .ok (.iconst 1, 1) := by decide +kernel
theorem dX9_firstOffice_98 : decode cX9_firstOffice 98 = .ok (.invokevirtual 85, 3) := by decide +kernel
theorem dX9_firstOffice_101 : decode cX9_firstOffice 101 = .ok (.aload_n 0, 1) := by decide +kernel
theorem dX9_firstOffice_102 : decode cX9_firstOffice 102 = .ok (.iconst 5, 1) := by decide +kernel
theorem dX9_firstOffice_103 : decode cX9_firstOffice 103 = .ok (.bipush 10, 2) := by decide +kernel
theorem dX9_firstOffice_105 : decode cX9_firstOffice 105 = .ok (.bipush 10, 2) := by decide +kernel
theorem dX9_firstOffice_107 : decode cX9_firstOffice 107 = .ok (.iconst 0, 1) := by decide +kernel
theorem dX9_firstOffice_108 : decode cX9_firstOffice 108 = .ok (.iconst 0, 1) := by decide +kernel
theorem dX9_firstOffice_109 : decode cX9_firstOffice 109 = .ok (.bipush 50, 2) := by decide +kernel
theorem dX9_firstOffice_111 : decode cX9_firstOffice 111 = .ok (.invokevirtual 89, 3) := by decide +kernel
theorem dX9_firstOffice_114 : decode cX9_firstOffice 114 = .ok (.pop, 1) := by decide +kernel
theorem dX9_firstOffice_115 : decode cX9_firstOffice 115 = .ok (.aload_n 0, 1) := by decide +kernel
theorem dX9_firstOffice_116 : decode cX9_firstOffice 116 = .ok (.bipush 15, 2) := by decide +kernel
theorem dX9_firstOffice_118 : decode cX9_firstOffice 118 = .ok (.bipush 8, 2) := by decide +kernel
theorem dX9_firstOffice_120 : decode cX9_firstOffice 120 = .ok (.bipush 10, 2) := by decide +kernel
theorem dX9_firstOffice_122 : decode cX9_firstOffice 122 = .ok (.iconst 0, 1) := by decide +kernel
theorem dX9_firstOffice_123 : decode cX9_firstOffice 123 = .ok (.iconst 1, 1) := by decide +kernel
theorem dX9_firstOffice_124 : decode cX9_firstOffice 124 = .ok (.bipush 40, 2) := by decide +kernel
theorem dX9_firstOffice_126 : decode cX9_firstOffice 126 = .ok (.invokevirtual 89, 3) := by decide +kernel
theorem dX9_firstOffice_129 : decode cX9_firstOffice 129 = .ok (.pop, 1) := by decide +kernel
theorem dX9_firstOffice_130 : decode cX9_firstOffice 130 = .ok (.aload_n 0, 1) := by decide +kernel
theorem dX9_firstOffice_131 : decode cX9_firstOffice 131 = .ok (.bipush 34, 2) := by decide +kernel
theorem dX9_firstOffice_133 : decode cX9_firstOffice 133 = .ok (.bipush 10, 2) := by decide +kernel
theorem dX9_firstOffice_135 : decode cX9_firstOffice 135 = .ok (.bipush 15, 2) := by decide +kernel
theorem dX9_firstOffice_137 : decode cX9_firstOffice 137 = .ok (.iconst 1, 1) := by decide +kernel
theorem dX9_firstOffice_138 : decode cX9_firstOffice 138 = .ok (.iconst 1, 1) := by decide +kernel
theorem dX9_firstOffice_139 : decode cX9_firstOffice 139 = .ok (.bipush 30, 2) := by decide +kernel
theorem dX9_firstOffice_141 : decode cX9_firstOffice 141 = .ok (.invokevirtual 89, 3) := by decide +kernel
theorem dX9_firstOffice_144 : decode cX9_firstOffice 144 = .ok (.pop, 1) := by decide +kernel
theorem dX9_firstOffice_145 : decode cX9_firstOffice 145 = .ok (.aload_n 0, 1) := by decide +kernel
theorem dX9_firstOffice_146 : decode cX9_firstOffice 146 = .ok (.bipush 22, 2) := by decide +kernel
theorem dX9_firstOffice_148 : decode cX9_firstOffice 148 = .ok (.bipush 10, 2) := by decide +kernel
theorem dX9_firstOffice_150 : decode cX9_firstOffice 150 = .ok (.bipush 20, 2) := by decide +kernel
theorem dX9_firstOffice_152 : decode cX9_firstOffice 152 = .ok (.iconst 0, 1) := by decide +kernel
theorem dX9_firstOffice_153 : decode cX9_firstOffice 153 = .ok (.iconst 0, 1) := by decide +kernel
theorem dX9_firstOffice_154 : decode cX9_firstOffice 154 = .ok (.iconst 0, 1) := by decide +kernel
theorem dX9_firstOffice_155 : decode cX9_firstOffice 155 = .ok (.invokevirtual 89, 3) := by decide +kernel
theorem dX9_firstOffice_158 : decode cX9_firstOffice 158 = .ok (.pop, 1) := by decide +kernel
theorem dX9_firstOffice_159 : decode cX9_firstOffice 159 = .ok (.aload_n 0, 1) := by decide +kernel
theorem dX9_firstOffice_160 : decode cX9_firstOffice 160 = .ok (.areturn, 1) := by decide +kernel
theorem dX9_append_0 : decode cX9_append 0 = .ok (.aload_n 0, 1) := by decide +kernel
theorem dX9_append_1 : decode cX9_append 1 = .ok (.getfield 41, 3) := by decide +kernel
theorem dX9_append_4 : decode cX9_append 4 = .ok (.invokevirtual 93, 3) := by decide +kernel
theorem dX9_append_7 : decode cX9_append 7 = .ok (.ifCond .ne 13, 3) := by decide +kernel
theorem dX9_append_10 : decode cX9_append 10 = .ok (.new 97, 3) := by decide +kernel
theorem dX9_append_13 : decode cX9_append 13 = .ok (.dup, 1) := by decide +kernel
theorem dX9_append_14 : decode cX9_append 14 = .ok (.ldc 99, 2) := by decide +kernel
theorem dX9_append_16 : decode cX9_append 16 = .ok (.invokespecial 101, 3) := by decide +kernel
theorem dX9_append_19 : decode cX9_append 19 = .ok (.athrow, 1) := by decide +kernel
theorem dX9_append_20 : decode cX9_append 20 = .ok (.aload_n 0, 1) := by decide +kernel
theorem dX9_append_21 : decode cX9_append 21 = .ok (.getfield 41, 3) := by decide +kernel
theorem dX9_append_24 : decode cX9_append 24 = .ok (.iload_n 1, 1) := by decide +kernel
theorem dX9_append_25 : decode cX9_append 25 = .ok (.invokevirtual 104, 3) := by decide +kernel
theorem dX9_append_28 : decode cX9_append 28 = .ok (.aload_n 0, 1) := by decide +kernel
theorem dX9_append_29 : decode cX9_append 29 = .ok (.getfield 41, 3) := by decide +kernel
theorem dX9_append_32 : decode cX9_append 32 = .ok (.iload_n 2, 1) := by decide +kernel
theorem dX9_append_33 : decode cX9_append 33 = .ok (.invokevirtual 104, 3) := by decide +kernel
theorem dX9_append_36 : decode cX9_append 36 = .ok (.aload_n 0, 1) := by decide +kernel
theorem dX9_append_37 : decode cX9_append 37 = .ok (.getfield 41, 3) := by decide +kernel
theorem dX9_append_40 : decode cX9_append 40 = .ok (.iload_n 3, 1) := by decide +kernel
theorem dX9_append_41 : decode cX9_append 41 = .ok (.invokevirtual 104, 3) := by decide +kernel
theorem dX9_append_44 : decode cX9_append 44 = .ok (.aload_n 0, 1) := by decide +kernel
theorem dX9_append_45 : decode cX9_append 45 = .ok (.getfield 41, 3) := by decide +kernel
theorem dX9_append_48 : decode cX9_append 48 = .ok (.iload 4, 2) := by decide +kernel
theorem dX9_append_50 : decode cX9_append 50 = .ok (.invokevirtual 104, 3) := by decide +kernel
theorem dX9_append_53 : decode cX9_append 53 = .ok (.aload_n 0, 1) := by decide +kernel
theorem dX9_append_54 : decode cX9_append 54 = .ok (.getfield 41, 3) := by decide +kernel
theorem dX9_append_57 : decode cX9_append 57 = .ok (.iload 5, 2) := by decide +kernel
theorem dX9_append_59 : decode cX9_append 59 = .ok (.invokevirtual 104, 3) := by decide +kernel
theorem dX9_append_62 : decode cX9_append 62 = .ok (.aload_n 0, 1) := by decide +kernel
theorem dX9_append_63 : decode cX9_append 63 = .ok (.getfield 41, 3) := by decide +kernel
theorem dX9_append_66 : decode cX9_append 66 = .ok (.getfield 107, 3) := by decide +kernel
theorem dX9_append_69 : decode cX9_append 69 = .ok (.ireturn, 1) := by decide +kernel
theorem dX9_truncate_0 : decode cX9_truncate 0 = .ok (.iload_n 1, 1) := by decide +kernel
theorem dX9_truncate_1 : decode cX9_truncate 1 = .ok (.iconst 0, 1) := by decide +kernel
theorem dX9_truncate_2 : decode cX9_truncate 2 = .ok (.aload_n 0, 1) := by decide +kernel
theorem dX9_truncate_3 : decode cX9_truncate 3 = .ok (.getfield 41, 3) := by decide +kernel
theorem dX9_truncate_6 : decode cX9_truncate 6 = .ok (.getfield 107, 3) := by decide +kernel
theorem dX9_truncate_9 : decode cX9_truncate 9 = .ok (.invokestatic 110, 3) := by decide +kernel
theorem dX9_truncate_12 : decode cX9_truncate 12 = .ok (.aload_n 0, 1) := by decide +kernel
theorem dX9_truncate_13 : decode cX9_truncate 13 = .ok (.getfield 41, 3) := by decide +kernel
theorem dX9_truncate_16 : decode cX9_truncate 16 = .ok (.iload_n 1, 1) := by decide +kernel
theorem dX9_truncate_17 : decode cX9_truncate 17 = .ok (.putfield 107, 3) := by decide +kernel
theorem dX9_truncate_20 : decode cX9_truncate 20 = .ok (.iload_n 1, 1) := by decide +kernel
theorem dX9_truncate_21 : decode cX9_truncate 21 = .ok (.ireturn, 1) := by decide +kernel
theorem dX9_errorCode_0 : decode cX9_errorCode 0 = .ok (.aload_n 0, 1) := by decide +kernel
theorem dX9_errorCode_1 : decode cX9_errorCode 1 = .ok (.getfield 41, 3) := by decide +kernel
theorem dX9_errorCode_4 : decode cX9_errorCode 4 = .ok (.getfield 114, 3) := by decide +kernel
theorem dX9_errorCode_7 : decode cX9_errorCode 7 = .ok (.ireturn, 1) := by decide +kernel
theorem dX9_errorPosition_0 : decode cX9_errorPosition 0 = .ok (.aload_n 0, 1) := by decide +kernel
theorem dX9_errorPosition_1 : decode cX9_errorPosition 1 = .ok (.getfield 41, 3) := by decide +kernel
theorem dX9_errorPosition_4 : decode cX9_errorPosition 4 = .ok (.getfield 117, 3) := by decide +kernel
theorem dX9_errorPosition_7 : decode cX9_errorPosition 7 = .ok (.ireturn, 1) := by decide +kernel
theorem dX9_loadSetup_0 : decode cX9_loadSetup 0 = .ok (.aload_n 0, 1) := by decide +kernel
theorem dX9_loadSetup_1 : decode cX9_loadSetup 1 = .ok (.getfield 20, 3) := by decide +kernel
theorem dX9_loadSetup_4 : decode cX9_loadSetup 4 = .ok (.aload_n 0, 1) := by decide +kernel
theorem dX9_loadSetup_5 : decode cX9_loadSetup 5 = .ok (.getfield 41, 3) := by decide +kernel
theorem dX9_loadSetup_8 : decode cX9_loadSetup 8 = .ok (.invokestatic 120, 3) := by decide +kernel
theorem dX9_loadSetup_11 : decode cX9_loadSetup 11 = .ok (.aload_n 0, 1) := by decide +kernel
theorem dX9_loadSetup_12 : decode cX9_loadSetup 12 = .ok (.getfield 41, 3) := by decide +kernel
theorem dX9_loadSetup_15 : decode cX9_loadSetup 15 = .ok (.iconst 0, 1) := by decide +kernel
theorem dX9_loadSetup_16 : decode cX9_loadSetup 16 = .ok (.putfield 107, 3) := by decide +kernel
theorem dX9_loadSetup_19 : decode cX9_loadSetup 19 = .ok (.aload_n 0, 1) := by decide +kernel
theorem dX9_loadSetup_20 : decode cX9_loadSetup 20 = .ok (.getfield 41, 3) := by decide +kernel
theorem dX9_loadSetup_23 : decode cX9_loadSetup 23 = .ok (.invokevirtual 126, 3) := by decide +kernel
theorem dX9_loadSetup_26 : decode cX9_loadSetup 26 = .ok (.ifCond .eq 13, 3) := by decide +kernel
theorem dX9_loadSetup_29 : decode cX9_loadSetup 29 = .ok (.new 129, 3) := by decide +kernel
theorem dX9_loadSetup_32 : decode cX9_loadSetup 32 = .ok (.dup, 1) := by decide +kernel
theorem dX9_loadSetup_33 : decode cX9_loadSetup 33 = .ok (.ldc 131, 2) := by decide +kernel
theorem dX9_loadSetup_35 : decode cX9_loadSetup 35 = .ok (.invokespecial 133, 3) := by decide +kernel
theorem dX9_loadSetup_38 : decode cX9_loadSetup 38 = .ok (.athrow, 1) := by decide +kernel
theorem dX9_loadSetup_39 : decode cX9_loadSetup 39 = .ok (.aload_n 0, 1) := by decide +kernel
theorem dX9_loadSetup_40 : decode cX9_loadSetup 40 = .ok (.getfield 26, 3) := by decide +kernel
theorem dX9_loadSetup_43 : decode cX9_loadSetup 43 = .ok (.aload_n 0, 1) := by decide +kernel
theorem dX9_loadSetup_44 : decode cX9_loadSetup 44 = .ok (.getfield 13, 3) := by decide +kernel
theorem dX9_loadSetup_47 : decode cX9_loadSetup 47 = .ok (.invokevirtual 134, 3) := by decide +kernel
theorem dX9_loadSetup_50 : decode cX9_loadSetup 50 = .ok (.aload_n 0, 1) := by decide +kernel
theorem dX9_loadSetup_51 : decode cX9_loadSetup 51 = .ok (.getfield 13, 3) := by decide +kernel
theorem dX9_loadSetup_54 : decode cX9_loadSetup 54 = .ok (.aload_n 0, 1) := by decide +kernel
theorem dX9_loadSetup_55 : decode cX9_loadSetup 55 = .ok (.getfield 20, 3) := by decide +kernel
theorem dX9_loadSetup_58 : decode cX9_loadSetup 58 = .ok (.invokevirtual 138, 3) := by decide +kernel
theorem dX9_loadSetup_61 : decode cX9_loadSetup 61 = .ok (.aload_n 0, 1) := by decide +kernel
theorem dX9_loadSetup_62 : decode cX9_loadSetup 62 = .ok (.getfield 13, 3) := by decide +kernel
theorem dX9_loadSetup_65 : decode cX9_loadSetup 65 = .ok (.getfield 141, 3) := by decide +kernel
theorem dX9_loadSetup_68 : decode cX9_loadSetup 68 = .ok (.getfield 145, 3) := by decide +kernel
theorem dX9_loadSetup_71 : decode cX9_loadSetup 71 = .ok (.ireturn, 1) := by decide +kernel
theorem dX9_runScript_0 : decode cX9_runScript 0 = .ok (.aload_n 0, 1) := by decide +kernel
theorem dX9_runScript_1 : decode cX9_runScript 1 = .ok (.getfield 48, 3) := by decide +kernel
theorem dX9_runScript_4 : decode cX9_runScript 4 = .ok (.aload_n 0, 1) := by decide +kernel
theorem dX9_runScript_5 : decode cX9_runScript 5 = .ok (.getfield 41, 3) := by decide +kernel
theorem dX9_runScript_8 : decode cX9_runScript 8 = .ok (.invokevirtual 150, 3) := by decide +kernel
theorem dX9_runScript_11 : decode cX9_runScript 11 = .ok (.aload_n 0, 1) := by decide +kernel
theorem dX9_runScript_12 : decode cX9_runScript 12 = .ok (.getfield 41, 3) := by decide +kernel
theorem dX9_runScript_15 : decode cX9_runScript 15 = .ok (.iconst 0, 1) := by decide +kernel
theorem dX9_runScript_16 : decode cX9_runScript 16 = .ok (.putfield 107, 3) := by decide +kernel
theorem dX9_runScript_19 : decode cX9_runScript 19 = .ok (.aload_n 0, 1) := by decide +kernel
theorem dX9_runScript_20 : decode cX9_runScript 20 = .ok (.getfield 41, 3) := by decide +kernel
theorem dX9_runScript_23 : decode cX9_runScript 23 = .ok (.invokevirtual 126, 3) := by decide +kernel
theorem dX9_runScript_26 : decode cX9_runScript 26 = .ok (.ifCond .eq 13, 3) := by decide +kernel
theorem dX9_runScript_29 : decode cX9_runScript 29 = .ok (.new 129, 3) := by decide +kernel
theorem dX9_runScript_32 : decode cX9_runScript 32 = .ok (.dup, 1) := by decide +kernel
theorem dX9_runScript_33 : decode cX9_runScript 33 = .ok (.ldc 154, 2) := by decide +kernel
theorem dX9_runScript_35 : decode cX9_runScript 35 = .ok (.invokespecial 133, 3) := by decide +kernel
theorem dX9_runScript_38 : decode cX9_runScript 38 = .ok (.athrow, 1) := by decide +kernel
theorem dX9_runScript_39 : decode cX9_runScript 39 = .ok (.aload_n 0, 1) := by decide +kernel
theorem dX9_runScript_40 : decode cX9_runScript 40 = .ok (.getfield 26, 3) := by decide +kernel
theorem dX9_runScript_43 : decode cX9_runScript 43 = .ok (.aload_n 0, 1) := by decide +kernel
theorem dX9_runScript_44 : decode cX9_runScript 44 = .ok (.getfield 13, 3) := by decide +kernel
theorem dX9_runScript_47 : decode cX9_runScript 47 = .ok (.invokevirtual 134, 3) := by decide +kernel
theorem dX9_runScript_50 : decode cX9_runScript 50 = .ok (.iconst 0, 1) := by decide +kernel
theorem dX9_runScript_51 : decode cX9_runScript 51 = .ok (.istore_n 1, 1) := by decide +kernel
theorem dX9_runScript_52 : decode cX9_runScript 52 = .ok (.iload_n 1, 1) := by decide +kernel
theorem dX9_runScript_53 : decode cX9_runScript 53 = .ok (.aload_n 0, 1) := by decide +kernel
theorem dX9_runScript_54 : decode cX9_runScript 54 = .ok (.getfield 48, 3) := by decide +kernel
theorem dX9_runScript_57 : decode cX9_runScript 57 = .ok (.getfield 156, 3) := by decide +kernel
theorem dX9_runScript_60 : decode cX9_runScript 60 = .ok (.if_icmp .ge 22, 3) := by decide +kernel
theorem dX9_runScript_63 : decode cX9_runScript 63 = .ok (.aload_n 0, 1) := by decide +kernel
theorem dX9_runScript_64 : decode cX9_runScript 64 = .ok (.iload_n 1, 1) := by decide +kernel
theorem dX9_runScript_65 : decode cX9_runScript 65 = .ok (.invokevirtual 157, 3) := by decide +kernel
theorem dX9_runScript_68 : decode cX9_runScript 68 = .ok (.ifCond .eq 14, 3) := by decide +kernel
theorem dX9_runScript_71 : decode cX9_runScript 71 = .ok (.aload_n 0, 1) := by decide +kernel
theorem dX9_runScript_72 : decode cX9_runScript 72 = .ok (.iload_n 1, 1) := by decide +kernel
theorem dX9_runScript_73 : decode cX9_runScript 73 = .ok (.invokevirtual 161, 3) := by decide +kernel
theorem dX9_runScript_76 : decode cX9_runScript 76 = .ok (.iinc 1 1, 3) := by decide +kernel
theorem dX9_runScript_79 : decode cX9_runScript 79 = .ok (.goto (-27), 3) := by decide +kernel
theorem dX9_runScript_82 : decode cX9_runScript 82 = .ok (.iload_n 1, 1) := by decide +kernel
theorem dX9_runScript_83 : decode cX9_runScript 83 = .ok (.ireturn, 1) := by decide +kernel
theorem dX9_isExecutable_0 : decode cX9_isExecutable 0 = .ok (.aload_n 0, 1) := by decide +kernel
theorem dX9_isExecutable_1 : decode cX9_isExecutable 1 = .ok (.getfield 48, 3) := by decide +kernel
theorem dX9_isExecutable_4 : decode cX9_isExecutable 4 = .ok (.getfield 164, 3) := by decide +kernel
theorem dX9_isExecutable_7 : decode cX9_isExecutable 7 = .ok (.iload_n 1, 1) := by decide +kernel
theorem dX9_isExecutable_8 : decode cX9_isExecutable 8 = .ok (.iaload, 1) := by decide +kernel
theorem dX9_isExecutable_9 : decode cX9_isExecutable 9 = .ok (.istore_n 2, 1) := by decide +kernel
theorem dX9_isExecutable_10 : decode cX9_isExecutable 10 = .ok (.aload_n 0, 1) := by decide +kernel
theorem dX9_isExecutable_11 : decode cX9_isExecutable 11 = .ok (.getfield 48, 3) := by decide +kernel
theorem dX9_isExecutable_14 : decode cX9_isExecutable 14 = .ok (.getfield 168, 3) := by decide +kernel
theorem dX9_isExecutable_17 : decode cX9_isExecutable 17 = .ok (.iload_n 1, 1) := by decide +kernel
theorem dX9_isExecutable_18 : decode cX9_isExecutable 18 = .ok (.iaload, 1) := by decide +kernel
theorem dX9_isExecutable_19 : decode cX9_isExecutable 19 = .ok (.istore_n 3, 1) := by decide +kernel
theorem dX9_isExecutable_20 : decode cX9_isExecutable 20 = .ok (.iload_n 2, 1) := by decide +kernel
theorem dX9_isExecutable_21 : decode cX9_isExecutable 21 = .ok (.iconst 3, 1) := by decide +kernel
theorem dX9_isExecutable_22 : decode cX9_isExecutable 22 = .ok (.if_icmp .ne 5, 3) := by decide +kernel
theorem dX9_isExecutable_25 : decode cX9_isExecutable 25 = .ok (.iconst 1, 1) := by decide +kernel
theorem dX9_isExecutable_26 : decode cX9_isExecutable 26 = .ok (.ireturn, 1) := by decide +kernel
theorem dX9_isExecutable_27 : decode cX9_isExecutable 27 = .ok (.aload_n 0, 1) := by decide +kernel
theorem dX9_isExecutable_28 : decode cX9_isExecutable 28 = .ok (.getfield 13, 3) := by decide +kernel
theorem dX9_isExecutable_31 : decode cX9_isExecutable 31 = .ok (.iload_n 3, 1) := by decide +kernel
theorem dX9_isExecutable_32 : decode cX9_isExecutable 32 = .ok (.invokevirtual 171, 3) := by decide +kernel
theorem dX9_isExecutable_35 : decode cX9_isExecutable 35 = .ok (.ifCond .ne 5, 3) := by decide +kernel
theorem dX9_isExecutable_38 : decode cX9_isExecutable 38 = .ok (.iconst 0, 1) := by decide +kernel
theorem dX9_isExecutable_39 : decode cX9_isExecutable 39 = .ok (.ireturn, 1) := by decide +kernel
theorem dX9_isExecutable_40 : decode cX9_isExecutable 40 = .ok (.iload_n 2, 1) := by decide +kernel
theorem dX9_isExecutable_41 : decode cX9_isExecutable 41 = .ok (.tableswitch 139 1 7 #[43, 52, 139, 74, 139, 109, 130], 43) := by decide +kernel
theorem dX9_isExecutable_84 : decode cX9_isExecutable 84 = .ok (.aload_n 0, 1) := by decide +kernel
theorem dX9_isExecutable_85 : decode cX9_isExecutable 85 = .ok (.getfield 13, 3) := by decide +kernel
theorem dX9_isExecutable_88 : decode cX9_isExecutable 88 = .ok (.iload_n 3, 1) := by decide +kernel
theorem dX9_isExecutable_89 : decode cX9_isExecutable 89 = .ok (.invokevirtual 174, 3) := by decide +kernel
theorem dX9_isExecutable_92 : decode cX9_isExecutable 92 = .ok (.ireturn, 1) := by decide +kernel
theorem dX9_isExecutable_93 : decode cX9_isExecutable 93 = .ok (.aload_n 0, 1) := by decide +kernel
theorem dX9_isExecutable_94 : decode cX9_isExecutable 94 = .ok (.getfield 13, 3) := by decide +kernel
theorem dX9_isExecutable_97 : decode cX9_isExecutable 97 = .ok (.getfield 141, 3) := by decide +kernel
theorem dX9_isExecutable_100 : decode cX9_isExecutable 100 = .ok (.getfield 177, 3) := by decide +kernel
theorem dX9_isExecutable_103 : decode cX9_isExecutable 103 = .ok (.iload_n 3, 1) := by decide +kernel
theorem dX9_isExecutable_104 : decode cX9_isExecutable 104 = .ok (.iaload, 1) := by decide +kernel
theorem dX9_isExecutable_105 : decode cX9_isExecutable 105 = .ok (.iconst 1, 1) := by decide +kernel
theorem dX9_isExecutable_106 : decode cX9_isExecutable 106 = .ok (.if_icmp .ne 7, 3) := by decide +kernel
theorem dX9_isExecutable_109 : decode cX9_isExecutable 109 = .ok (.iconst 1, 1) := by decide +kernel
theorem dX9_isExecutable_110 : decode cX9_isExecutable 110 = .ok (.goto 4, 3) := by decide +kernel
theorem dX9_isExecutable_113 : decode cX9_isExecutable 113 = .ok (.iconst 0, 1) := by decide +kernel
theorem dX9_isExecutable_114 : decode cX9_isExecutable 114 = .ok (.ireturn, 1) := by decide +kernel
theorem dX9_isExecutable_115 : decode cX9_isExecutable 115 = .ok (.aload_n 0, 1) := by decide +kernel
theorem dX9_isExecutable_116 : decode cX9_isExecutable 116 = .ok (.getfield 13, 3) := by decide +kernel
theorem dX9_isExecutable_119 : decode cX9_isExecutable 119 = .ok (.iload_n 3, 1) := by decide +kernel
theorem dX9_isExecutable_120 : decode cX9_isExecutable 120 = .ok (.aload_n 0, 1) := by decide +kernel
theorem dX9_isExecutable_121 : decode cX9_isExecutable 121 = .ok (.getfield 48, 3) := by decide +kernel
theorem dX9_isExecutable_124 : decode cX9_isExecutable 124 = .ok (.getfield 180, 3) := by decide +kernel
theorem dX9_isExecutable_127 : decode cX9_isExecutable 127 = .ok (.iload_n 1, 1) := by decide +kernel
theorem dX9_isExecutable_128 : decode cX9_isExecutable 128 = .ok (.iaload, 1) := by decide +kernel
theorem dX9_isExecutable_129 : decode cX9_isExecutable 129 = .ok (.aload_n 0, 1) := by decide +kernel
theorem dX9_isExecutable_130 : decode cX9_isExecutable 130 = .ok (.getfield 48, 3) := by decide +kernel
theorem dX9_isExecutable_133 : decode cX9_isExecutable 133 = .ok (.getfield 183, 3) := by decide +kernel
theorem dX9_isExecutable_136 : decode cX9_isExecutable 136 = .ok (.iload_n 1, 1) := by decide +kernel
theorem dX9_isExecutable_137 : decode cX9_isExecutable 137 = .ok (.iaload, 1) := by decide +kernel
theorem dX9_isExecutable_138 : decode cX9_isExecutable 138 = .ok (.invokevirtual 186, 3) := by decide +kernel
theorem dX9_isExecutable_141 : decode cX9_isExecutable 141 = .ok (.ifCond .ne 7, 3) := by decide +kernel
theorem dX9_isExecutable_144 : decode cX9_isExecutable 144 = .ok (.iconst 1, 1) := by decide +kernel
theorem dX9_isExecutable_145 : decode cX9_isExecutable 145 = .ok (.goto 4, 3) := by decide +kernel
theorem dX9_isExecutable_148 : decode cX9_isExecutable 148 = .ok (.iconst 0, 1) := by decide +kernel
theorem dX9_isExecutable_149 : decode cX9_isExecutable 149 = .ok (.ireturn, 1) := by decide +kernel
theorem dX9_isExecutable_150 : decode cX9_isExecutable 150 = .ok (.aload_n 0, 1) := by decide +kernel
theorem dX9_isExecutable_151 : decode cX9_isExecutable 151 = .ok (.getfield 13, 3) := by decide +kernel
theorem dX9_isExecutable_154 : decode cX9_isExecutable 154 = .ok (.getfield 141, 3) := by decide +kernel
theorem dX9_isExecutable_157 : decode cX9_isExecutable 157 = .ok (.getfield 177, 3) := by decide +kernel
theorem dX9_isExecutable_160 : decode cX9_isExecutable 160 = .ok (.iload_n 3, 1) := by decide +kernel
theorem dX9_isExecutable_161 : decode cX9_isExecutable 161 = .ok (.iaload, 1) := by decide +kernel
theorem dX9_isExecutable_162 : decode cX9_isExecutable 162 = .ok (.ifCond .ne 7, 3) := by decide +kernel
theorem dX9_isExecutable_165 : decode cX9_isExecutable 165 = .ok (.iconst 1, 1) := by decide +kernel
theorem dX9_isExecutable_166 : decode cX9_isExecutable 166 = .ok (.goto 4, 3) := by decide +kernel
theorem dX9_isExecutable_169 : decode cX9_isExecutable 169 = .ok (.iconst 0, 1) := by decide +kernel
theorem dX9_isExecutable_170 : decode cX9_isExecutable 170 = .ok (.ireturn, 1) := by decide +kernel
theorem dX9_isExecutable_171 : decode cX9_isExecutable 171 = .ok (.aload_n 0, 1) := by decide +kernel
theorem dX9_isExecutable_172 : decode cX9_isExecutable 172 = .ok (.getfield 13, 3) := by decide +kernel
theorem dX9_isExecutable_175 : decode cX9_isExecutable 175 = .ok (.iload_n 3, 1) := by decide +kernel
theorem dX9_isExecutable_176 : decode cX9_isExecutable 176 = .ok (.invokevirtual 190, 3) := by decide +kernel
theorem dX9_isExecutable_179 : decode cX9_isExecutable 179 = .ok (.ireturn, 1) := by decide +kernel
theorem dX9_isExecutable_180 : decode cX9_isExecutable 180 = .ok (.iconst 1, 1) := by decide +kernel
theorem dX9_isExecutable_181 : decode cX9_isExecutable 181 = .ok (.ireturn, 1) := by decide +kernel
theorem dX9_execute_0 : decode cX9_execute 0 = .ok (.aload_n 0, 1) := by decide +kernel
theorem dX9_execute_1 : decode cX9_execute 1 = .ok (.getfield 48, 3) := by decide +kernel
theorem dX9_execute_4 : decode cX9_execute 4 = .ok (.getfield 168, 3) := by decide +kernel
theorem dX9_execute_7 : decode cX9_execute 7 = .ok (.iload_n 1, 1) := by decide +kernel
theorem dX9_execute_8 : decode cX9_execute 8 = .ok (.iaload, 1) := by decide +kernel
theorem dX9_execute_9 : decode cX9_execute 9 = .ok (.istore_n 2, 1) := by decide +kernel
theorem dX9_execute_10 : decode cX9_execute 10 = .ok (.aload_n 0, 1) := by decide +kernel
theorem dX9_execute_11 : decode cX9_execute 11 = .ok (.getfield 48, 3) := by decide +kernel
theorem dX9_execute_14 : decode cX9_execute 14 = .ok (.getfield 180, 3) := by decide +kernel
theorem dX9_execute_17 : decode cX9_execute 17 = .ok (.iload_n 1, 1) := by decide +kernel
theorem dX9_execute_18 : decode cX9_execute 18 = .ok (.iaload, 1) := by decide +kernel
theorem dX9_execute_19 : decode cX9_execute 19 = .ok (.istore_n 3, 1) := by decide +kernel
theorem dX9_execute_20 : decode cX9_execute 20 = .ok (.aload_n 0, 1) := by decide +kernel
theorem dX9_execute_21 : decode cX9_execute 21 = .ok (.getfield 48, 3) := by decide +kernel
theorem dX9_execute_24 : decode cX9_execute 24 = .ok (.getfield 164, 3) := by decide +kernel
theorem dX9_execute_27 : decode cX9_execute 27 = .ok (.iload_n 1, 1) := by decide +kernel
theorem dX9_execute_28 : decode cX9_execute 28 = .ok (.iaload, 1) := by decide +kernel
theorem dX9_execute_29 : decode cX9_execute 29 = .ok (.tableswitch 136 1 7 #[43, 54, 65, 77, 98, 113, 125], 43) := by decide +kernel
theorem dX9_execute_72 : decode cX9_execute 72 = .ok (.aload_n 0, 1) := by decide +kernel
theorem dX9_execute_73 : decode cX9_execute 73 = .ok (.getfield 13, 3) := by decide +kernel
theorem dX9_execute_76 : decode cX9_execute 76 = .ok (.iload_n 2, 1) := by decide +kernel
theorem dX9_execute_77 : decode cX9_execute 77 = .ok (.invokevirtual 193, 3) := by decide +kernel
theorem dX9_execute_80 : decode cX9_execute 80 = .ok (.goto 94, 3) := by decide +kernel
theorem dX9_execute_83 : decode cX9_execute 83 = .ok (.aload_n 0, 1) := by decide +kernel
theorem dX9_execute_84 : decode cX9_execute 84 = .ok (.getfield 13, 3) := by decide +kernel
theorem dX9_execute_87 : decode cX9_execute 87 = .ok (.iload_n 2, 1) := by decide +kernel
theorem dX9_execute_88 : decode cX9_execute 88 = .ok (.invokevirtual 196, 3) := by decide +kernel
theorem dX9_execute_91 : decode cX9_execute 91 = .ok (.goto 83, 3) := by decide +kernel
theorem dX9_execute_94 : decode cX9_execute 94 = .ok (.aload_n 0, 1) := by decide +kernel
theorem dX9_execute_95 : decode cX9_execute 95 = .ok (.getfield 13, 3) := by decide +kernel
theorem dX9_execute_98 : decode cX9_execute 98 = .ok (.iload_n 2, 1) := by decide +kernel
theorem dX9_execute_99 : decode cX9_execute 99 = .ok (.invokevirtual 199, 3) := by decide +kernel
theorem dX9_execute_102 : decode cX9_execute 102 = .ok (.pop, 1) := by decide +kernel
theorem dX9_execute_103 : decode cX9_execute 103 = .ok (.goto 71, 3) := by decide +kernel
theorem dX9_execute_106 : decode cX9_execute 106 = .ok (.aload_n 0, 1) := by decide +kernel
theorem dX9_execute_107 : decode cX9_execute 107 = .ok (.getfield 13, 3) := by decide +kernel
theorem dX9_execute_110 : decode cX9_execute 110 = .ok (.iload_n 2, 1) := by decide +kernel
theorem dX9_execute_111 : decode cX9_execute 111 = .ok (.iload_n 3, 1) := by decide +kernel
theorem dX9_execute_112 : decode cX9_execute 112 = .ok (.aload_n 0, 1) := by decide +kernel
theorem dX9_execute_113 : decode cX9_execute 113 = .ok (.getfield 48, 3) := by decide +kernel
theorem dX9_execute_116 : decode cX9_execute 116 = .ok (.getfield 183, 3) := by decide +kernel
theorem dX9_execute_119 : decode cX9_execute 119 = .ok (.iload_n 1, 1) := by decide +kernel
theorem dX9_execute_120 : decode cX9_execute 120 = .ok (.iaload, 1) := by decide +kernel
theorem dX9_execute_121 : decode cX9_execute 121 = .ok (.invokevirtual 203, 3) := by decide +kernel
theorem dX9_execute_124 : decode cX9_execute 124 = .ok (.goto 50, 3) := by decide +kernel
theorem dX9_execute_127 : decode cX9_execute 127 = .ok (.aload_n 0, 1) := by decide +kernel
theorem dX9_execute_128 : decode cX9_execute 128 = .ok (.getfield 13, 3) := by decide +kernel
theorem dX9_execute_131 : decode cX9_execute 131 = .ok (.getfield 206, 3) := by decide +kernel
theorem dX9_execute_134 : decode cX9_execute 134 = .ok (.iload_n 2, 1) := by decide +kernel
theorem dX9_execute_135 : decode cX9_execute 135 = .ok (.invokevirtual 210, 3) := by decide +kernel
theorem dX9_execute_138 : decode cX9_execute 138 = .ok (.pop, 1) := by decide +kernel
theorem dX9_execute_139 : decode cX9_execute 139 = .ok (.goto 35, 3) := by decide +kernel
theorem dX9_execute_142 : decode cX9_execute 142 = .ok (.aload_n 0, 1) := by decide +kernel
theorem dX9_execute_143 : decode cX9_execute 143 = .ok (.getfield 13, 3) := by decide +kernel
theorem dX9_execute_146 : decode cX9_execute 146 = .ok (.iload_n 2, 1) := by decide +kernel
theorem dX9_execute_147 : decode cX9_execute 147 = .ok (.iload_n 3, 1) := by decide +kernel
theorem dX9_execute_148 : decode cX9_execute 148 = .ok (.invokevirtual 215, 3) := by decide +kernel
theorem dX9_execute_151 : decode cX9_execute 151 = .ok (.goto 23, 3) := by decide +kernel
theorem dX9_execute_154 : decode cX9_execute 154 = .ok (.aload_n 0, 1) := by decide +kernel
theorem dX9_execute_155 : decode cX9_execute 155 = .ok (.getfield 13, 3) := by decide +kernel
theorem dX9_execute_158 : decode cX9_execute 158 = .ok (.iload_n 2, 1) := by decide +kernel
theorem dX9_execute_159 : decode cX9_execute 159 = .ok (.invokevirtual 218, 3) := by decide +kernel
theorem dX9_execute_162 : decode cX9_execute 162 = .ok (.goto 12, 3) := by decide +kernel
theorem dX9_execute_165 : decode cX9_execute 165 = .ok (.aload_n 0, 1) := by decide +kernel
theorem dX9_execute_166 : decode cX9_execute 166 = .ok (.getfield 13, 3) := by decide +kernel
theorem dX9_execute_169 : decode cX9_execute 169 = .ok (.iload_n 2, 1) := by decide +kernel
theorem dX9_execute_170 : decode cX9_execute 170 = .ok (.iload_n 3, 1) := by decide +kernel
theorem dX9_execute_171 : decode cX9_execute 171 = .ok (.invokevirtual 221, 3) := by decide +kernel
theorem dX9_execute_174 : decode cX9_execute 174 = .ok (.return_, 1) := by decide +kernel
theorem dX9_addKite_0 : decode cX9_addKite 0 = .ok (.aload_n 0, 1) := by decide +kernel
theorem dX9_addKite_1 : decode cX9_addKite 1 = .ok (.iload 4, 2) := by decide +kernel
theorem dX9_addKite_3 : decode cX9_addKite 3 = .ok (.invokevirtual 224, 3) := by decide +kernel
theorem dX9_addKite_6 : decode cX9_addKite 6 = .ok (.iload_n 1, 1) := by decide +kernel
theorem dX9_addKite_7 : decode cX9_addKite 7 = .ok (.iconst 0, 1) := by decide +kernel
theorem dX9_addKite_8 : decode cX9_addKite 8 = .ok (.aload_n 0, 1) := by decide +kernel
theorem dX9_addKite_9 : decode cX9_addKite 9 = .ok (.getfield 13, 3) := by decide +kernel
theorem dX9_addKite_12 : decode cX9_addKite 12 = .ok (.getfield 59, 3) := by decide +kernel
theorem dX9_addKite_15 : decode cX9_addKite 15 = .ok (.getfield 63, 3) := by decide +kernel
theorem dX9_addKite_18 : decode cX9_addKite 18 = .ok (.iconst 1, 1) := by decide +kernel
theorem dX9_addKite_19 : decode cX9_addKite 19 = .ok (.isub, 1) := by decide +kernel
theorem dX9_addKite_20 : decode cX9_addKite 20 = .ok (.invokestatic 110, 3) := by decide +kernel
theorem dX9_addKite_23 : decode cX9_addKite 23 = .ok (.iload_n 2, 1) := by decide +kernel
theorem dX9_addKite_24 : decode cX9_addKite 24 = .ok (.iconst 0, 1) := by decide +kernel
theorem dX9_addKite_25 : decode cX9_addKite 25 = .ok (.aload_n 0, 1) := by decide +kernel
theorem dX9_addKite_26 : decode cX9_addKite 26 = .ok (.getfield 13, 3) := by decide +kernel
theorem dX9_addKite_29 : decode cX9_addKite 29 = .ok (.getfield 59, 3) := by decide +kernel
theorem dX9_addKite_32 : decode cX9_addKite 32 = .ok (.getfield 69, 3) := by decide +kernel
theorem dX9_addKite_35 : decode cX9_addKite 35 = .ok (.iconst 1, 1) := by decide +kernel
theorem dX9_addKite_36 : decode cX9_addKite 36 = .ok (.isub, 1) := by decide +kernel
theorem dX9_addKite_37 : decode cX9_addKite 37 = .ok (.invokestatic 110, 3) := by decide +kernel
theorem dX9_addKite_40 : decode cX9_addKite 40 = .ok (.iload_n 3, 1) := by decide +kernel
theorem dX9_addKite_41 : decode cX9_addKite 41 = .ok (.iconst 1, 1) := by decide +kernel
theorem dX9_addKite_42 : decode cX9_addKite 42 = .ok (.bipush 60, 2) := by decide +kernel
theorem dX9_addKite_44 : decode cX9_addKite 44 = .ok (.invokestatic 110, 3) := by decide +kernel
theorem dX9_addKite_47 : decode cX9_addKite 47 = .ok (.iload 5, 2) := by decide +kernel
theorem dX9_addKite_49 : decode cX9_addKite 49 = .ok (.iconst 0, 1) := by decide +kernel
theorem dX9_addKite_50 : decode cX9_addKite 50 = .ok (.bipush 9, 2) := by decide +kernel
theorem dX9_addKite_52 : decode cX9_addKite 52 = .ok (.invokestatic 110, 3) := by decide +kernel
theorem dX9_addKite_55 : decode cX9_addKite 55 = .ok (.iload 6, 2) := by decide +kernel
theorem dX9_addKite_57 : decode cX9_addKite 57 = .ok (.iconst 0, 1) := by decide +kernel
theorem dX9_addKite_58 : decode cX9_addKite 58 = .ok (.sipush 999, 3) := by decide +kernel
theorem dX9_addKite_61 : decode cX9_addKite 61 = .ok (.invokestatic 110, 3) := by decide +kernel
theorem dX9_addKite_64 : decode cX9_addKite 64 = .ok (.aload_n 0, 1) := by decide +kernel
theorem dX9_addKite_65 : decode cX9_addKite 65 = .ok (.getfield 13, 3) := by decide +kernel
theorem dX9_addKite_68 : decode cX9_addKite 68 = .ok (.getfield 141, 3) := by decide +kernel
theorem dX9_addKite_71 : decode cX9_addKite 71 = .ok (.getfield 145, 3) := by decide +kernel
theorem dX9_addKite_74 : decode cX9_addKite 74 = .ok (.bipush 16, 2) := by decide +kernel
theorem dX9_addKite_76 : decode cX9_addKite 76 = .ok (.if_icmp .lt 13, 3) := by decide +kernel
theorem dX9_addKite_79 : decode cX9_addKite 79 = .ok (.new 97, 3) := by decide +kernel
theorem dX9_addKite_82 : decode cX9_addKite 82 = .ok (.dup, 1) := by decide +kernel
theorem dX9_addKite_83 : decode cX9_addKite 83 = .ok (.ldc 227, 2) := by decide +kernel
theorem dX9_addKite_85 : decode cX9_addKite 85 = .ok (.invokespecial 101, 3) := by decide +kernel
theorem dX9_addKite_88 : decode cX9_addKite 88 = .ok (.athrow, 1) := by decide +kernel
theorem dX9_addKite_89 : decode cX9_addKite 89 = .ok (.aload_n 0, 1) := by decide +kernel
theorem dX9_addKite_90 : decode cX9_addKite 90 = .ok (.getfield 26, 3) := by decide +kernel
theorem dX9_addKite_93 : decode cX9_addKite 93 = .ok (.aload_n 0, 1) := by decide +kernel
theorem dX9_addKite_94 : decode cX9_addKite 94 = .ok (.getfield 13, 3) := by decide +kernel
theorem dX9_addKite_97 : decode cX9_addKite 97 = .ok (.invokevirtual 134, 3) := by decide +kernel
theorem dX9_addKite_100 : decode cX9_addKite 100 = .ok (.aload_n 0, 1) := by decide +kernel
theorem dX9_addKite_101 : decode cX9_addKite 101 = .ok (.getfield 13, 3) := by decide +kernel
theorem dX9_addKite_104 : decode cX9_addKite 104 = .ok (.iload_n 1, 1) := by decide +kernel
theorem dX9_addKite_105 : decode cX9_addKite 105 = .ok (.iload_n 2, 1) := by decide +kernel
theorem dX9_addKite_106 : decode cX9_addKite 106 = .ok (.iload_n 3, 1) := by decide +kernel
theorem dX9_addKite_107 : decode cX9_addKite 107 = .ok (.iload 4, 2) := by decide +kernel
theorem dX9_addKite_109 : decode cX9_addKite 109 = .ok (.iload 5, 2) := by decide +kernel
theorem dX9_addKite_111 : decode cX9_addKite 111 = .ok (.iload 6, 2) := by decide +kernel
theorem dX9_addKite_113 : decode cX9_addKite 113 = .ok (.invokevirtual 89, 3) := by decide +kernel
theorem dX9_addKite_116 : decode cX9_addKite 116 = .ok (.ireturn, 1) := by decide +kernel
theorem dX9_launch_0 : decode cX9_launch 0 = .ok (.aload_n 0, 1) := by decide +kernel
theorem dX9_launch_1 : decode cX9_launch 1 = .ok (.iload_n 1, 1) := by decide +kernel
theorem dX9_launch_2 : decode cX9_launch 2 = .ok (.invokevirtual 229, 3) := by decide +kernel
theorem dX9_launch_5 : decode cX9_launch 5 = .ok (.aload_n 0, 1) := by decide +kernel
theorem dX9_launch_6 : decode cX9_launch 6 = .ok (.getfield 13, 3) := by decide +kernel
theorem dX9_launch_9 : decode cX9_launch 9 = .ok (.iload_n 1, 1) := by decide +kernel
theorem dX9_launch_10 : decode cX9_launch 10 = .ok (.invokevirtual 174, 3) := by decide +kernel
theorem dX9_launch_13 : decode cX9_launch 13 = .ok (.ifCond .ne 13, 3) := by decide +kernel
theorem dX9_launch_16 : decode cX9_launch 16 = .ok (.new 97, 3) := by decide +kernel
theorem dX9_launch_19 : decode cX9_launch 19 = .ok (.dup, 1) := by decide +kernel
theorem dX9_launch_20 : decode cX9_launch 20 = .ok (.ldc 232, 2) := by decide +kernel
theorem dX9_launch_22 : decode cX9_launch 22 = .ok (.invokespecial 101, 3) := by decide +kernel
theorem dX9_launch_25 : decode cX9_launch 25 = .ok (.athrow, 1) := by decide +kernel
theorem dX9_launch_26 : decode cX9_launch 26 = .ok (.aload_n 0, 1) := by decide +kernel
theorem dX9_launch_27 : decode cX9_launch 27 = .ok (.getfield 26, 3) := by decide +kernel
theorem dX9_launch_30 : decode cX9_launch 30 = .ok (.aload_n 0, 1) := by decide +kernel
theorem dX9_launch_31 : decode cX9_launch 31 = .ok (.getfield 13, 3) := by decide +kernel
theorem dX9_launch_34 : decode cX9_launch 34 = .ok (.invokevirtual 134, 3) := by decide +kernel
theorem dX9_launch_37 : decode cX9_launch 37 = .ok (.aload_n 0, 1) := by decide +kernel
theorem dX9_launch_38 : decode cX9_launch 38 = .ok (.getfield 13, 3) := by decide +kernel
theorem dX9_launch_41 : decode cX9_launch 41 = .ok (.iload_n 1, 1) := by decide +kernel
theorem dX9_launch_42 : decode cX9_launch 42 = .ok (.invokevirtual 193, 3) := by decide +kernel
theorem dX9_launch_45 : decode cX9_launch 45 = .ok (.aload_n 0, 1) := by decide +kernel
theorem dX9_launch_46 : decode cX9_launch 46 = .ok (.getfield 13, 3) := by decide +kernel
theorem dX9_launch_49 : decode cX9_launch 49 = .ok (.iload_n 1, 1) := by decide +kernel
theorem dX9_launch_50 : decode cX9_launch 50 = .ok (.aload_n 0, 1) := by decide +kernel
theorem dX9_launch_51 : decode cX9_launch 51 = .ok (.getfield 13, 3) := by decide +kernel
theorem dX9_launch_54 : decode cX9_launch 54 = .ok (.getfield 234, 3) := by decide +kernel
theorem dX9_launch_57 : decode cX9_launch 57 = .ok (.invokevirtual 237, 3) := by decide +kernel
theorem dX9_launch_60 : decode cX9_launch 60 = .ok (.ireturn, 1) := by decide +kernel
theorem dX9_land_0 : decode cX9_land 0 = .ok (.aload_n 0, 1) := by decide +kernel
theorem dX9_land_1 : decode cX9_land 1 = .ok (.iload_n 1, 1) := by decide +kernel
theorem dX9_land_2 : decode cX9_land 2 = .ok (.invokevirtual 229, 3) := by decide +kernel
theorem dX9_land_5 : decode cX9_land 5 = .ok (.aload_n 0, 1) := by decide +kernel
theorem dX9_land_6 : decode cX9_land 6 = .ok (.iload_n 1, 1) := by decide +kernel
theorem dX9_land_7 : decode cX9_land 7 = .ok (.iconst 1, 1) := by decide +kernel
theorem dX9_land_8 : decode cX9_land 8 = .ok (.invokevirtual 241, 3) := by decide +kernel
theorem dX9_land_11 : decode cX9_land 11 = .ok (.aload_n 0, 1) := by decide +kernel
theorem dX9_land_12 : decode cX9_land 12 = .ok (.getfield 26, 3) := by decide +kernel
theorem dX9_land_15 : decode cX9_land 15 = .ok (.aload_n 0, 1) := by decide +kernel
theorem dX9_land_16 : decode cX9_land 16 = .ok (.getfield 13, 3) := by decide +kernel
theorem dX9_land_19 : decode cX9_land 19 = .ok (.invokevirtual 134, 3) := by decide +kernel
theorem dX9_land_22 : decode cX9_land 22 = .ok (.aload_n 0, 1) := by decide +kernel
theorem dX9_land_23 : decode cX9_land 23 = .ok (.getfield 13, 3) := by decide +kernel
theorem dX9_land_26 : decode cX9_land 26 = .ok (.iload_n 1, 1) := by decide +kernel
theorem dX9_land_27 : decode cX9_land 27 = .ok (.invokevirtual 196, 3) := by decide +kernel
theorem dX9_land_30 : decode cX9_land 30 = .ok (.aload_n 0, 1) := by decide +kernel
theorem dX9_land_31 : decode cX9_land 31 = .ok (.getfield 13, 3) := by decide +kernel
theorem dX9_land_34 : decode cX9_land 34 = .ok (.getfield 141, 3) := by decide +kernel
theorem dX9_land_37 : decode cX9_land 37 = .ok (.iconst 1, 1) := by decide +kernel
theorem dX9_land_38 : decode cX9_land 38 = .ok (.invokevirtual 244, 3) := by decide +kernel
theorem dX9_land_41 : decode cX9_land 41 = .ok (.ireturn, 1) := by decide +kernel
theorem dX9_passHours_0 : decode cX9_passHours 0 = .ok (.iload_n 1, 1) := by decide +kernel
theorem dX9_passHours_1 : decode cX9_passHours 1 = .ok (.iconst 1, 1) := by decide +kernel
theorem dX9_passHours_2 : decode cX9_passHours 2 = .ok (.bipush 48, 2) := by decide +kernel
theorem dX9_passHours_4 : decode cX9_passHours 4 = .ok (.invokestatic 110, 3) := by decide +kernel
theorem dX9_passHours_7 : decode cX9_passHours 7 = .ok (.aload_n 0, 1) := by decide +kernel
theorem dX9_passHours_8 : decode cX9_passHours 8 = .ok (.getfield 26, 3) := by decide +kernel
theorem dX9_passHours_11 : decode cX9_passHours 11 = .ok (.aload_n 0, 1) := by decide +kernel
theorem dX9_passHours_12 : decode cX9_passHours 12 = .ok (.getfield 13, 3) := by decide +kernel
theorem dX9_passHours_15 : decode cX9_passHours 15 = .ok (.invokevirtual 134, 3) := by decide +kernel
theorem dX9_passHours_18 : decode cX9_passHours 18 = .ok (.aload_n 0, 1) := by decide +kernel
theorem dX9_passHours_19 : decode cX9_passHours 19 = .ok (.getfield 13, 3) := by decide +kernel
theorem dX9_passHours_22 : decode cX9_passHours 22 = .ok (.iload_n 1, 1) := by decide +kernel
theorem dX9_passHours_23 : decode cX9_passHours 23 = .ok (.invokevirtual 199, 3) := by decide +kernel
theorem dX9_passHours_26 : decode cX9_passHours 26 = .ok (.ireturn, 1) := by decide +kernel
theorem dX9_permit_0 : decode cX9_permit 0 = .ok (.aload_n 0, 1) := by decide +kernel
theorem dX9_permit_1 : decode cX9_permit 1 = .ok (.iload_n 1, 1) := by decide +kernel
theorem dX9_permit_2 : decode cX9_permit 2 = .ok (.iload_n 2, 1) := by decide +kernel
theorem dX9_permit_3 : decode cX9_permit 3 = .ok (.iload_n 3, 1) := by decide +kernel
theorem dX9_permit_4 : decode cX9_permit 4 = .ok (.invokevirtual 247, 3) := by decide +kernel
theorem dX9_permit_7 : decode cX9_permit 7 = .ok (.aload_n 0, 1) := by decide +kernel
theorem dX9_permit_8 : decode cX9_permit 8 = .ok (.getfield 13, 3) := by decide +kernel
theorem dX9_permit_11 : decode cX9_permit 11 = .ok (.iload_n 1, 1) := by decide +kernel
theorem dX9_permit_12 : decode cX9_permit 12 = .ok (.iload_n 2, 1) := by decide +kernel
theorem dX9_permit_13 : decode cX9_permit 13 = .ok (.iload_n 3, 1) := by decide +kernel
theorem dX9_permit_14 : decode cX9_permit 14 = .ok (.invokevirtual 186, 3) := by decide +kernel
theorem dX9_permit_17 : decode cX9_permit 17 = .ok (.ifCond .eq 13, 3) := by decide +kernel
theorem dX9_permit_20 : decode cX9_permit 20 = .ok (.new 97, 3) := by decide +kernel
theorem dX9_permit_23 : decode cX9_permit 23 = .ok (.dup, 1) := by decide +kernel
theorem dX9_permit_24 : decode cX9_permit 24 = .ok (.ldc 250, 2) := by decide +kernel
theorem dX9_permit_26 : decode cX9_permit 26 = .ok (.invokespecial 101, 3) := by decide +kernel
theorem dX9_permit_29 : decode cX9_permit 29 = .ok (.athrow, 1) := by decide +kernel
theorem dX9_permit_30 : decode cX9_permit 30 = .ok (.aload_n 0, 1) := by decide +kernel
theorem dX9_permit_31 : decode cX9_permit 31 = .ok (.getfield 26, 3) := by decide +kernel
theorem dX9_permit_34 : decode cX9_permit 34 = .ok (.aload_n 0, 1) := by decide +kernel
theorem dX9_permit_35 : decode cX9_permit 35 = .ok (.getfield 13, 3) := by decide +kernel
theorem dX9_permit_38 : decode cX9_permit 38 = .ok (.invokevirtual 134, 3) := by decide +kernel
theorem dX9_permit_41 : decode cX9_permit 41 = .ok (.aload_n 0, 1) := by decide +kernel
theorem dX9_permit_42 : decode cX9_permit 42 = .ok (.getfield 13, 3) := by decide +kernel
theorem dX9_permit_45 : decode cX9_permit 45 = .ok (.iload_n 1, 1) := by decide +kernel
theorem dX9_permit_46 : decode cX9_permit 46 = .ok (.iload_n 2, 1) := by decide +kernel
theorem dX9_permit_47 : decode cX9_permit 47 = .ok (.iload_n 3, 1) := by decide +kernel
theorem dX9_permit_48 : decode cX9_permit 48 = .ok (.invokevirtual 203, 3) := by decide +kernel
theorem dX9_permit_51 : decode cX9_permit 51 = .ok (.aload_n 0, 1) := by decide +kernel
theorem dX9_permit_52 : decode cX9_permit 52 = .ok (.getfield 13, 3) := by decide +kernel
theorem dX9_permit_55 : decode cX9_permit 55 = .ok (.getfield 206, 3) := by decide +kernel
theorem dX9_permit_58 : decode cX9_permit 58 = .ok (.getfield 252, 3) := by decide +kernel
theorem dX9_permit_61 : decode cX9_permit 61 = .ok (.ireturn, 1) := by decide +kernel
theorem dX9_cancelPermits_0 : decode cX9_cancelPermits 0 = .ok (.aload_n 0, 1) := by decide +kernel
theorem dX9_cancelPermits_1 : decode cX9_cancelPermits 1 = .ok (.iload_n 1, 1) := by decide +kernel
theorem dX9_cancelPermits_2 : decode cX9_cancelPermits 2 = .ok (.invokevirtual 229, 3) := by decide +kernel
theorem dX9_cancelPermits_5 : decode cX9_cancelPermits 5 = .ok (.aload_n 0, 1) := by decide +kernel
theorem dX9_cancelPermits_6 : decode cX9_cancelPermits 6 = .ok (.getfield 26, 3) := by decide +kernel
theorem dX9_cancelPermits_9 : decode cX9_cancelPermits 9 = .ok (.aload_n 0, 1) := by decide +kernel
theorem dX9_cancelPermits_10 : decode cX9_cancelPermits 10 = .ok (.getfield 13, 3) := by decide +kernel
theorem dX9_cancelPermits_13 : decode cX9_cancelPermits 13 = .ok (.invokevirtual 134, 3) := by decide +kernel
theorem dX9_cancelPermits_16 : decode cX9_cancelPermits 16 = .ok (.aload_n 0, 1) := by decide +kernel
theorem dX9_cancelPermits_17 : decode cX9_cancelPermits 17 = .ok (.getfield 13, 3) := by decide +kernel
theorem dX9_cancelPermits_20 : decode cX9_cancelPermits 20 = .ok (.getfield 206, 3) := by decide +kernel
theorem dX9_cancelPermits_23 : decode cX9_cancelPermits 23 = .ok (.iload_n 1, 1) := by decide +kernel
theorem dX9_cancelPermits_24 : decode cX9_cancelPermits 24 = .ok (.invokevirtual 210, 3) := by decide +kernel
theorem dX9_cancelPermits_27 : decode cX9_cancelPermits 27 = .ok (.ireturn, 1) := by decide +kernel
theorem dX9_tieKnots_0 : decode cX9_tieKnots 0 = .ok (.aload_n 0, 1) := by decide +kernel
theorem dX9_tieKnots_1 : decode cX9_tieKnots 1 = .ok (.iload_n 1, 1) := by decide +kernel
theorem dX9_tieKnots_2 : decode cX9_tieKnots 2 = .ok (.invokevirtual 229, 3) := by decide +kernel
theorem dX9_tieKnots_5 : decode cX9_tieKnots 5 = .ok (.iload_n 2, 1) := by decide +kernel
theorem dX9_tieKnots_6 : decode cX9_tieKnots 6 = .ok (.iconst 0, 1) := by decide +kernel
theorem dX9_tieKnots_7 : decode cX9_tieKnots 7 = .ok (.bipush 9, 2) := by decide +kernel
theorem dX9_tieKnots_9 : decode cX9_tieKnots 9 = .ok (.invokestatic 110, 3) := by decide +kernel
theorem dX9_tieKnots_12 : decode cX9_tieKnots 12 = .ok (.aload_n 0, 1) := by decide +kernel
theorem dX9_tieKnots_13 : decode cX9_tieKnots 13 = .ok (.iload_n 1, 1) := by decide +kernel
theorem dX9_tieKnots_14 : decode cX9_tieKnots 14 = .ok (.iconst 0, 1) := by decide +kernel
theorem dX9_tieKnots_15 : decode cX9_tieKnots 15 = .ok (.invokevirtual 241, 3) := by decide +kernel
theorem dX9_tieKnots_18 : decode cX9_tieKnots 18 = .ok (.aload_n 0, 1) := by decide +kernel
theorem dX9_tieKnots_19 : decode cX9_tieKnots 19 = .ok (.getfield 26, 3) := by decide +kernel
theorem dX9_tieKnots_22 : decode cX9_tieKnots 22 = .ok (.aload_n 0, 1) := by decide +kernel
theorem dX9_tieKnots_23 : decode cX9_tieKnots 23 = .ok (.getfield 13, 3) := by decide +kernel
theorem dX9_tieKnots_26 : decode cX9_tieKnots 26 = .ok (.invokevirtual 134, 3) := by decide +kernel
theorem dX9_tieKnots_29 : decode cX9_tieKnots 29 = .ok (.aload_n 0, 1) := by decide +kernel
theorem dX9_tieKnots_30 : decode cX9_tieKnots 30 = .ok (.getfield 13, 3) := by decide +kernel
theorem dX9_tieKnots_33 : decode cX9_tieKnots 33 = .ok (.getfield 141, 3) := by decide +kernel
theorem dX9_tieKnots_36 : decode cX9_tieKnots 36 = .ok (.getfield 253, 3) := by decide +kernel
theorem dX9_tieKnots_39 : decode cX9_tieKnots 39 = .ok (.iload_n 1, 1) := by decide +kernel
theorem dX9_tieKnots_40 : decode cX9_tieKnots 40 = .ok (.iaload, 1) := by decide +kernel
theorem dX9_tieKnots_41 : decode cX9_tieKnots 41 = .ok (.istore_n 3, 1) := by decide +kernel
theorem dX9_tieKnots_42 : decode cX9_tieKnots 42 = .ok (.aload_n 0, 1) := by decide +kernel
theorem dX9_tieKnots_43 : decode cX9_tieKnots 43 = .ok (.getfield 13, 3) := by decide +kernel
theorem dX9_tieKnots_46 : decode cX9_tieKnots 46 = .ok (.iload_n 1, 1) := by decide +kernel
theorem dX9_tieKnots_47 : decode cX9_tieKnots 47 = .ok (.iload_n 2, 1) := by decide +kernel
theorem dX9_tieKnots_48 : decode cX9_tieKnots 48 = .ok (.invokevirtual 215, 3) := by decide +kernel
theorem dX9_tieKnots_51 : decode cX9_tieKnots 51 = .ok (.iload_n 3, 1) := by decide +kernel
theorem dX9_tieKnots_52 : decode cX9_tieKnots 52 = .ok (.ireturn, 1) := by decide +kernel
theorem dX9_repair_0 : decode cX9_repair 0 = .ok (.aload_n 0, 1) := by decide +kernel
theorem dX9_repair_1 : decode cX9_repair 1 = .ok (.iload_n 1, 1) := by decide +kernel
theorem dX9_repair_2 : decode cX9_repair 2 = .ok (.invokevirtual 229, 3) := by decide +kernel
theorem dX9_repair_5 : decode cX9_repair 5 = .ok (.aload_n 0, 1) := by decide +kernel
theorem dX9_repair_6 : decode cX9_repair 6 = .ok (.getfield 13, 3) := by decide +kernel
theorem dX9_repair_9 : decode cX9_repair 9 = .ok (.iload_n 1, 1) := by decide +kernel
theorem dX9_repair_10 : decode cX9_repair 10 = .ok (.invokevirtual 190, 3) := by decide +kernel
theorem dX9_repair_13 : decode cX9_repair 13 = .ok (.ifCond .ne 14, 3) := by decide +kernel
theorem dX9_repair_16 : decode cX9_repair 16 = .ok (.new 97, 3) := by decide +kernel
theorem dX9_repair_19 : decode cX9_repair 19 = .ok (.dup, 1) := by decide +kernel
theorem dX9_repair_20 : decode cX9_repair 20 = .ok (.ldc_w 256, 3) := by decide +kernel
theorem dX9_repair_23 : decode cX9_repair 23 = .ok (.invokespecial 101, 3) := by decide +kernel
theorem dX9_repair_26 : decode cX9_repair 26 = .ok (.athrow, 1) := by decide +kernel
theorem dX9_repair_27 : decode cX9_repair 27 = .ok (.aload_n 0, 1) := by decide +kernel
theorem dX9_repair_28 : decode cX9_repair 28 = .ok (.getfield 26, 3) := by decide +kernel
theorem dX9_repair_31 : decode cX9_repair 31 = .ok (.aload_n 0, 1) := by decide +kernel
theorem dX9_repair_32 : decode cX9_repair 32 = .ok (.getfield 13, 3) := by decide +kernel
theorem dX9_repair_35 : decode cX9_repair 35 = .ok (.invokevirtual 134, 3) := by decide +kernel
theorem dX9_repair_38 : decode cX9_repair 38 = .ok (.aload_n 0, 1) := by decide +kernel
theorem dX9_repair_39 : decode cX9_repair 39 = .ok (.getfield 13, 3) := by decide +kernel
theorem dX9_repair_42 : decode cX9_repair 42 = .ok (.iload_n 1, 1) := by decide +kernel
theorem dX9_repair_43 : decode cX9_repair 43 = .ok (.invokevirtual 218, 3) := by decide +kernel
theorem dX9_repair_46 : decode cX9_repair 46 = .ok (.aload_n 0, 1) := by decide +kernel
theorem dX9_repair_47 : decode cX9_repair 47 = .ok (.getfield 13, 3) := by decide +kernel
theorem dX9_repair_50 : decode cX9_repair 50 = .ok (.iload_n 1, 1) := by decide +kernel
theorem dX9_repair_51 : decode cX9_repair 51 = .ok (.invokevirtual 258, 3) := by decide +kernel
theorem dX9_repair_54 : decode cX9_repair 54 = .ok (.ireturn, 1) := by decide +kernel
theorem dX9_fund_0 : decode cX9_fund 0 = .ok (.aload_n 0, 1) := by decide +kernel
theorem dX9_fund_1 : decode cX9_fund 1 = .ok (.iload_n 1, 1) := by decide +kernel
theorem dX9_fund_2 : decode cX9_fund 2 = .ok (.invokevirtual 229, 3) := by decide +kernel
theorem dX9_fund_5 : decode cX9_fund 5 = .ok (.iload_n 2, 1) := by decide +kernel
theorem dX9_fund_6 : decode cX9_fund 6 = .ok (.iconst 1, 1) := by decide +kernel
theorem dX9_fund_7 : decode cX9_fund 7 = .ok (.sipush 999, 3) := by decide +kernel
theorem dX9_fund_10 : decode cX9_fund 10 = .ok (.invokestatic 110, 3) := by decide +kernel
theorem dX9_fund_13 : decode cX9_fund 13 = .ok (.aload_n 0, 1) := by decide +kernel
theorem dX9_fund_14 : decode cX9_fund 14 = .ok (.getfield 26, 3) := by decide +kernel
theorem dX9_fund_17 : decode cX9_fund 17 = .ok (.aload_n 0, 1) := by decide +kernel
theorem dX9_fund_18 : decode cX9_fund 18 = .ok (.getfield 13, 3) := by decide +kernel
theorem dX9_fund_21 : decode cX9_fund 21 = .ok (.invokevirtual 134, 3) := by decide +kernel
theorem dX9_fund_24 : decode cX9_fund 24 = .ok (.aload_n 0, 1) := by decide +kernel
theorem dX9_fund_25 : decode cX9_fund 25 = .ok (.getfield 13, 3) := by decide +kernel
theorem dX9_fund_28 : decode cX9_fund 28 = .ok (.iload_n 1, 1) := by decide +kernel
theorem dX9_fund_29 : decode cX9_fund 29 = .ok (.iload_n 2, 1) := by decide +kernel
theorem dX9_fund_30 : decode cX9_fund 30 = .ok (.invokevirtual 221, 3) := by decide +kernel
theorem dX9_fund_33 : decode cX9_fund 33 = .ok (.aload_n 0, 1) := by decide +kernel
theorem dX9_fund_34 : decode cX9_fund 34 = .ok (.getfield 13, 3) := by decide +kernel
theorem dX9_fund_37 : decode cX9_fund 37 = .ok (.getfield 141, 3) := by decide +kernel
theorem dX9_fund_40 : decode cX9_fund 40 = .ok (.getfield 261, 3) := by decide +kernel
theorem dX9_fund_43 : decode cX9_fund 43 = .ok (.iload_n 1, 1) := by decide +kernel
theorem dX9_fund_44 : decode cX9_fund 44 = .ok (.iaload, 1) := by decide +kernel
theorem dX9_fund_45 : decode cX9_fund 45 = .ok (.ireturn, 1) := by decide +kernel
theorem dX9_undo_0 : decode cX9_undo 0 = .ok (.aload_n 0, 1) := by decide +kernel
theorem dX9_undo_1 : decode cX9_undo 1 = .ok (.getfield 26, 3) := by decide +kernel
theorem dX9_undo_4 : decode cX9_undo 4 = .ok (.getfield 264, 3) := by decide +kernel
theorem dX9_undo_7 : decode cX9_undo 7 = .ok (.iconst 1, 1) := by decide +kernel
theorem dX9_undo_8 : decode cX9_undo 8 = .ok (.if_icmp .ge 14, 3) := by decide +kernel
theorem dX9_undo_11 : decode cX9_undo 11 = .ok (.new 265, 3) := by decide +kernel
theorem dX9_undo_14 : decode cX9_undo 14 = .ok (.dup, 1) := by decide +kernel
theorem dX9_undo_15 : decode cX9_undo 15 = .ok (.ldc_w 267, 3) := by decide +kernel
theorem dX9_undo_18 : decode cX9_undo 18 = .ok (.invokespecial 269, 3) := by decide +kernel
theorem dX9_undo_21 : decode cX9_undo 21 = .ok (.athrow, 1) := by decide +kernel
theorem dX9_undo_22 : decode cX9_undo 22 = .ok (.aload_n 0, 1) := by decide +kernel
theorem dX9_undo_23 : decode cX9_undo 23 = .ok (.getfield 26, 3) := by decide +kernel
theorem dX9_undo_26 : decode cX9_undo 26 = .ok (.aload_n 0, 1) := by decide +kernel
theorem dX9_undo_27 : decode cX9_undo 27 = .ok (.getfield 13, 3) := by decide +kernel
theorem dX9_undo_30 : decode cX9_undo 30 = .ok (.invokevirtual 270, 3) := by decide +kernel
theorem dX9_undo_33 : decode cX9_undo 33 = .ok (.aload_n 0, 1) := by decide +kernel
theorem dX9_undo_34 : decode cX9_undo 34 = .ok (.getfield 26, 3) := by decide +kernel
theorem dX9_undo_37 : decode cX9_undo 37 = .ok (.getfield 264, 3) := by decide +kernel
theorem dX9_undo_40 : decode cX9_undo 40 = .ok (.ireturn, 1) := by decide +kernel
theorem dX9_saveSnapshot_0 : decode cX9_saveSnapshot 0 = .ok (.iload_n 1, 1) := by decide +kernel
theorem dX9_saveSnapshot_1 : decode cX9_saveSnapshot 1 = .ok (.iconst 0, 1) := by decide +kernel
theorem dX9_saveSnapshot_2 : decode cX9_saveSnapshot 2 = .ok (.iconst 1, 1) := by decide +kernel
theorem dX9_saveSnapshot_3 : decode cX9_saveSnapshot 3 = .ok (.invokestatic 110, 3) := by decide +kernel
theorem dX9_saveSnapshot_6 : decode cX9_saveSnapshot 6 = .ok (.aload_n 0, 1) := by decide +kernel
theorem dX9_saveSnapshot_7 : decode cX9_saveSnapshot 7 = .ok (.getfield 30, 3) := by decide +kernel
theorem dX9_saveSnapshot_10 : decode cX9_saveSnapshot 10 = .ok (.iload_n 1, 1) := by decide +kernel
theorem dX9_saveSnapshot_11 : decode cX9_saveSnapshot 11 = .ok (.aaload, 1) := by decide +kernel
theorem dX9_saveSnapshot_12 : decode cX9_saveSnapshot 12 = .ok (.aload_n 0, 1) := by decide +kernel
theorem dX9_saveSnapshot_13 : decode cX9_saveSnapshot 13 = .ok (.getfield 13, 3) := by decide +kernel
theorem dX9_saveSnapshot_16 : decode cX9_saveSnapshot 16 = .ok (.invokevirtual 138, 3) := by decide +kernel
theorem dX9_saveSnapshot_19 : decode cX9_saveSnapshot 19 = .ok (.aload_n 0, 1) := by decide +kernel
theorem dX9_saveSnapshot_20 : decode cX9_saveSnapshot 20 = .ok (.getfield 34, 3) := by decide +kernel
theorem dX9_saveSnapshot_23 : decode cX9_saveSnapshot 23 = .ok (.iload_n 1, 1) := by decide +kernel
theorem dX9_saveSnapshot_24 : decode cX9_saveSnapshot 24 = .ok (.iconst 1, 1) := by decide +kernel
theorem dX9_saveSnapshot_25 : decode cX9_saveSnapshot 25 = .ok (.bastore, 1) := by decide +kernel
theorem dX9_saveSnapshot_26 : decode cX9_saveSnapshot 26 = .ok (.return_, 1) := by decide +kernel
theorem dX9_restoreSnapshot_0 : decode cX9_restoreSnapshot 0 = .ok (.iload_n 1, 1) := by decide +kernel
theorem dX9_restoreSnapshot_1 : decode cX9_restoreSnapshot 1 = .ok (.iconst 0, 1) := by decide +kernel
theorem dX9_restoreSnapshot_2 : decode cX9_restoreSnapshot 2 = .ok (.iconst 1, 1) := by decide +kernel
theorem dX9_restoreSnapshot_3 : decode cX9_restoreSnapshot 3 = .ok (.invokestatic 110, 3) := by decide +kernel
theorem dX9_restoreSnapshot_6 : decode cX9_restoreSnapshot 6 = .ok (.aload_n 0, 1) := by decide +kernel
theorem dX9_restoreSnapshot_7 : decode cX9_restoreSnapshot 7 = .ok (.getfield 34, 3) := by decide +kernel
theorem dX9_restoreSnapshot_10 : decode cX9_restoreSnapshot 10 = .ok (.iload_n 1, 1) := by decide +kernel
theorem dX9_restoreSnapshot_11 : decode cX9_restoreSnapshot 11 = .ok (.baload, 1) := by decide +kernel
theorem dX9_restoreSnapshot_12 : decode cX9_restoreSnapshot 12 = .ok (.ifCond .ne 14, 3) := by decide +kernel
theorem dX9_restoreSnapshot_15 : decode cX9_restoreSnapshot 15 = .ok (.new 265, 3) := by decide +kernel
theorem dX9_restoreSnapshot_18 : decode cX9_restoreSnapshot 18 = .ok (.dup, 1) := by decide +kernel
theorem dX9_restoreSnapshot_19 : decode cX9_restoreSnapshot 19 = .ok (.ldc_w 273, 3) := by decide +kernel
theorem dX9_restoreSnapshot_22 : decode cX9_restoreSnapshot 22 = .ok (.invokespecial 269, 3) := by decide +kernel
theorem dX9_restoreSnapshot_25 : decode cX9_restoreSnapshot 25 = .ok (.athrow, 1) := by decide +kernel
theorem dX9_restoreSnapshot_26 : decode cX9_restoreSnapshot 26 = .ok (.aload_n 0, 1) := by decide +kernel
theorem dX9_restoreSnapshot_27 : decode cX9_restoreSnapshot 27 = .ok (.getfield 26, 3) := by decide +kernel
theorem dX9_restoreSnapshot_30 : decode cX9_restoreSnapshot 30 = .ok (.aload_n 0, 1) := by decide +kernel
theorem dX9_restoreSnapshot_31 : decode cX9_restoreSnapshot 31 = .ok (.getfield 13, 3) := by decide +kernel
theorem dX9_restoreSnapshot_34 : decode cX9_restoreSnapshot 34 = .ok (.invokevirtual 134, 3) := by decide +kernel
theorem dX9_restoreSnapshot_37 : decode cX9_restoreSnapshot 37 = .ok (.aload_n 0, 1) := by decide +kernel
theorem dX9_restoreSnapshot_38 : decode cX9_restoreSnapshot 38 = .ok (.getfield 13, 3) := by decide +kernel
theorem dX9_restoreSnapshot_41 : decode cX9_restoreSnapshot 41 = .ok (.aload_n 0, 1) := by decide +kernel
theorem dX9_restoreSnapshot_42 : decode cX9_restoreSnapshot 42 = .ok (.getfield 30, 3) := by decide +kernel
theorem dX9_restoreSnapshot_45 : decode cX9_restoreSnapshot 45 = .ok (.iload_n 1, 1) := by decide +kernel
theorem dX9_restoreSnapshot_46 : decode cX9_restoreSnapshot 46 = .ok (.aaload, 1) := by decide +kernel
theorem dX9_restoreSnapshot_47 : decode cX9_restoreSnapshot 47 = .ok (.invokevirtual 138, 3) := by decide +kernel
theorem dX9_restoreSnapshot_50 : decode cX9_restoreSnapshot 50 = .ok (.aload_n 0, 1) := by decide +kernel
theorem dX9_restoreSnapshot_51 : decode cX9_restoreSnapshot 51 = .ok (.getfield 13, 3) := by decide +kernel
theorem dX9_restoreSnapshot_54 : decode cX9_restoreSnapshot 54 = .ok (.getfield 234, 3) := by decide +kernel
theorem dX9_restoreSnapshot_57 : decode cX9_restoreSnapshot 57 = .ok (.ireturn, 1) := by decide +kernel
theorem dX9_hour_0 : decode cX9_hour 0 = .ok (.aload_n 0, 1) := by decide +kernel
theorem dX9_hour_1 : decode cX9_hour 1 = .ok (.getfield 13, 3) := by decide +kernel
theorem dX9_hour_4 : decode cX9_hour 4 = .ok (.getfield 234, 3) := by decide +kernel
theorem dX9_hour_7 : decode cX9_hour 7 = .ok (.ireturn, 1) := by decide +kernel
theorem dX9_width_0 : decode cX9_width 0 = .ok (.aload_n 0, 1) := by decide +kernel
theorem dX9_width_1 : decode cX9_width 1 = .ok (.getfield 13, 3) := by decide +kernel
theorem dX9_width_4 : decode cX9_width 4 = .ok (.getfield 59, 3) := by decide +kernel
theorem dX9_width_7 : decode cX9_width 7 = .ok (.getfield 63, 3) := by decide +kernel
theorem dX9_width_10 : decode cX9_width 10 = .ok (.ireturn, 1) := by decide +kernel
theorem dX9_height_0 : decode cX9_height 0 = .ok (.aload_n 0, 1) := by decide +kernel
theorem dX9_height_1 : decode cX9_height 1 = .ok (.getfield 13, 3) := by decide +kernel
theorem dX9_height_4 : decode cX9_height 4 = .ok (.getfield 59, 3) := by decide +kernel
theorem dX9_height_7 : decode cX9_height 7 = .ok (.getfield 69, 3) := by decide +kernel
theorem dX9_height_10 : decode cX9_height 10 = .ok (.ireturn, 1) := by decide +kernel
theorem dX9_fee_0 : decode cX9_fee 0 = .ok (.aload_n 0, 1) := by decide +kernel
theorem dX9_fee_1 : decode cX9_fee 1 = .ok (.getfield 13, 3) := by decide +kernel
theorem dX9_fee_4 : decode cX9_fee 4 = .ok (.getfield 59, 3) := by decide +kernel
theorem dX9_fee_7 : decode cX9_fee 7 = .ok (.getfield 72, 3) := by decide +kernel
theorem dX9_fee_10 : decode cX9_fee 10 = .ok (.ireturn, 1) := by decide +kernel
theorem dX9_fine_0 : decode cX9_fine 0 = .ok (.aload_n 0, 1) := by decide +kernel
theorem dX9_fine_1 : decode cX9_fine 1 = .ok (.getfield 13, 3) := by decide +kernel
theorem dX9_fine_4 : decode cX9_fine 4 = .ok (.getfield 59, 3) := by decide +kernel
theorem dX9_fine_7 : decode cX9_fine 7 = .ok (.getfield 75, 3) := by decide +kernel
theorem dX9_fine_10 : decode cX9_fine 10 = .ok (.ireturn, 1) := by decide +kernel
theorem dX9_zoneCount_0 : decode cX9_zoneCount 0 = .ok (.aload_n 0, 1) := by decide +kernel
theorem dX9_zoneCount_1 : decode cX9_zoneCount 1 = .ok (.getfield 13, 3) := by decide +kernel
theorem dX9_zoneCount_4 : decode cX9_zoneCount 4 = .ok (.getfield 59, 3) := by decide +kernel
theorem dX9_zoneCount_7 : decode cX9_zoneCount 7 = .ok (.getfield 275, 3) := by decide +kernel
theorem dX9_zoneCount_10 : decode cX9_zoneCount 10 = .ok (.ireturn, 1) := by decide +kernel
theorem dX9_windDirection_0 : decode cX9_windDirection 0 = .ok (.aload_n 0, 1) := by decide +kernel
theorem dX9_windDirection_1 : decode cX9_windDirection 1 = .ok (.iload_n 1, 1) := by decide +kernel
theorem dX9_windDirection_2 : decode cX9_windDirection 2 = .ok (.invokevirtual 278, 3) := by decide +kernel
theorem dX9_windDirection_5 : decode cX9_windDirection 5 = .ok (.iload_n 2, 1) := by decide +kernel
theorem dX9_windDirection_6 : decode cX9_windDirection 6 = .ok (.invokestatic 281, 3) := by decide +kernel
theorem dX9_windDirection_9 : decode cX9_windDirection 9 = .ok (.aload_n 0, 1) := by decide +kernel
theorem dX9_windDirection_10 : decode cX9_windDirection 10 = .ok (.getfield 13, 3) := by decide +kernel
theorem dX9_windDirection_13 : decode cX9_windDirection 13 = .ok (.getfield 59, 3) := by decide +kernel
theorem dX9_windDirection_16 : decode cX9_windDirection 16 = .ok (.getfield 284, 3) := by decide +kernel
theorem dX9_windDirection_19 : decode cX9_windDirection 19 = .ok (.aload_n 0, 1) := by decide +kernel
theorem dX9_windDirection_20 : decode cX9_windDirection 20 = .ok (.getfield 13, 3) := by decide +kernel
theorem dX9_windDirection_23 : decode cX9_windDirection 23 = .ok (.getfield 59, 3) := by decide +kernel
theorem dX9_windDirection_26 : decode cX9_windDirection 26 = .ok (.iload_n 1, 1) := by decide +kernel
theorem dX9_windDirection_27 : decode cX9_windDirection 27 = .ok (.iload_n 2, 1) := by decide +kernel
theorem dX9_windDirection_28 : decode cX9_windDirection 28 = .ok (.invokevirtual 287, 3) := by decide +kernel
theorem dX9_windDirection_31 : decode cX9_windDirection 31 = .ok (.iaload, 1) := by decide +kernel
theorem dX9_windDirection_32 : decode cX9_windDirection 32 = .ok (.ireturn, 1) := by decide +kernel
theorem dX9_windForce_0 : decode cX9_windForce 0 = .ok (.aload_n 0, 1) := by decide +kernel
theorem dX9_windForce_1 : decode cX9_windForce 1 = .ok (.iload_n 1, 1) := by decide +kernel
theorem dX9_windForce_2 : decode cX9_windForce 2 = .ok (.invokevirtual 278, 3) := by decide +kernel
theorem dX9_windForce_5 : decode cX9_windForce 5 = .ok (.iload_n 2, 1) := by decide +kernel
theorem dX9_windForce_6 : decode cX9_windForce 6 = .ok (.invokestatic 281, 3) := by decide +kernel
theorem dX9_windForce_9 : decode cX9_windForce 9 = .ok (.aload_n 0, 1) := by decide +kernel
theorem dX9_windForce_10 : decode cX9_windForce 10 = .ok (.getfield 13, 3) := by decide +kernel
theorem dX9_windForce_13 : decode cX9_windForce 13 = .ok (.getfield 59, 3) := by decide +kernel
theorem dX9_windForce_16 : decode cX9_windForce 16 = .ok (.getfield 290, 3) := by decide +kernel
theorem dX9_windForce_19 : decode cX9_windForce 19 = .ok (.aload_n 0, 1) := by decide +kernel
theorem dX9_windForce_20 : decode cX9_windForce 20 = .ok (.getfield 13, 3) := by decide +kernel
theorem dX9_windForce_23 : decode cX9_windForce 23 = .ok (.getfield 59, 3) := by decide +kernel
theorem dX9_windForce_26 : decode cX9_windForce 26 = .ok (.iload_n 1, 1) := by decide +kernel
theorem dX9_windForce_27 : decode cX9_windForce 27 = .ok (.iload_n 2, 1) := by decide +kernel
theorem dX9_windForce_28 : decode cX9_windForce 28 = .ok (.invokevirtual 287, 3) := by decide +kernel
theorem dX9_windForce_31 : decode cX9_windForce 31 = .ok (.iaload, 1) := by decide +kernel
theorem dX9_windForce_32 : decode cX9_windForce 32 = .ok (.ireturn, 1) := by decide +kernel
theorem dX9_colourCount_0 : decode cX9_colourCount 0 = .ok (.aload_n 0, 1) := by decide +kernel
theorem dX9_colourCount_1 : decode cX9_colourCount 1 = .ok (.getfield 13, 3) := by decide +kernel
theorem dX9_colourCount_4 : decode cX9_colourCount 4 = .ok (.getfield 59, 3) := by decide +kernel
theorem dX9_colourCount_7 : decode cX9_colourCount 7 = .ok (.getfield 293, 3) := by decide +kernel
theorem dX9_colourCount_10 : decode cX9_colourCount 10 = .ok (.ireturn, 1) := by decide +kernel
theorem dX9_quota_0 : decode cX9_quota 0 = .ok (.aload_n 0, 1) := by decide +kernel
theorem dX9_quota_1 : decode cX9_quota 1 = .ok (.iload_n 1, 1) := by decide +kernel
theorem dX9_quota_2 : decode cX9_quota 2 = .ok (.invokevirtual 224, 3) := by decide +kernel
theorem dX9_quota_5 : decode cX9_quota 5 = .ok (.aload_n 0, 1) := by decide +kernel
theorem dX9_quota_6 : decode cX9_quota 6 = .ok (.getfield 13, 3) := by decide +kernel
theorem dX9_quota_9 : decode cX9_quota 9 = .ok (.getfield 59, 3) := by decide +kernel
theorem dX9_quota_12 : decode cX9_quota 12 = .ok (.getfield 296, 3) := by decide +kernel
theorem dX9_quota_15 : decode cX9_quota 15 = .ok (.iload_n 1, 1) := by decide +kernel
theorem dX9_quota_16 : decode cX9_quota 16 = .ok (.iaload, 1) := by decide +kernel
theorem dX9_quota_17 : decode cX9_quota 17 = .ok (.ireturn, 1) := by decide +kernel
theorem dX9_quotaUsed_0 : decode cX9_quotaUsed 0 = .ok (.aload_n 0, 1) := by decide +kernel
theorem dX9_quotaUsed_1 : decode cX9_quotaUsed 1 = .ok (.iload_n 1, 1) := by decide +kernel
theorem dX9_quotaUsed_2 : decode cX9_quotaUsed 2 = .ok (.invokevirtual 224, 3) := by decide +kernel
theorem dX9_quotaUsed_5 : decode cX9_quotaUsed 5 = .ok (.iload_n 2, 1) := by decide +kernel
theorem dX9_quotaUsed_6 : decode cX9_quotaUsed 6 = .ok (.invokestatic 281, 3) := by decide +kernel
theorem dX9_quotaUsed_9 : decode cX9_quotaUsed 9 = .ok (.aload_n 0, 1) := by decide +kernel
theorem dX9_quotaUsed_10 : decode cX9_quotaUsed 10 = .ok (.getfield 13, 3) := by decide +kernel
theorem dX9_quotaUsed_13 : decode cX9_quotaUsed 13 = .ok (.iload_n 1, 1) := by decide +kernel
theorem dX9_quotaUsed_14 : decode cX9_quotaUsed 14 = .ok (.iload_n 2, 1) := by decide +kernel
theorem dX9_quotaUsed_15 : decode cX9_quotaUsed 15 = .ok (.invokevirtual 299, 3) := by decide +kernel
theorem dX9_quotaUsed_18 : decode cX9_quotaUsed 18 = .ok (.ireturn, 1) := by decide +kernel
theorem dX9_kiteCount_0 : decode cX9_kiteCount 0 = .ok (.aload_n 0, 1) := by decide +kernel
theorem dX9_kiteCount_1 : decode cX9_kiteCount 1 = .ok (.getfield 13, 3) := by decide +kernel
theorem dX9_kiteCount_4 : decode cX9_kiteCount 4 = .ok (.getfield 141, 3) := by decide +kernel
theorem dX9_kiteCount_7 : decode cX9_kiteCount 7 = .ok (.getfield 145, 3) := by decide +kernel
theorem dX9_kiteCount_10 : decode cX9_kiteCount 10 = .ok (.ireturn, 1) := by decide +kernel
theorem dX9_anchorX_0 : decode cX9_anchorX 0 = .ok (.aload_n 0, 1) := by decide +kernel
theorem dX9_anchorX_1 : decode cX9_anchorX 1 = .ok (.iload_n 1, 1) := by decide +kernel
theorem dX9_anchorX_2 : decode cX9_anchorX 2 = .ok (.invokevirtual 229, 3) := by decide +kernel
theorem dX9_anchorX_5 : decode cX9_anchorX 5 = .ok (.aload_n 0, 1) := by decide +kernel
theorem dX9_anchorX_6 : decode cX9_anchorX 6 = .ok (.getfield 13, 3) := by decide +kernel
theorem dX9_anchorX_9 : decode cX9_anchorX 9 = .ok (.getfield 141, 3) := by decide +kernel
theorem dX9_anchorX_12 : decode cX9_anchorX 12 = .ok (.getfield 302, 3) := by decide +kernel
theorem dX9_anchorX_15 : decode cX9_anchorX 15 = .ok (.iload_n 1, 1) := by decide +kernel
theorem dX9_anchorX_16 : decode cX9_anchorX 16 = .ok (.iaload, 1) := by decide +kernel
theorem dX9_anchorX_17 : decode cX9_anchorX 17 = .ok (.ireturn, 1) := by decide +kernel
theorem dX9_anchorY_0 : decode cX9_anchorY 0 = .ok (.aload_n 0, 1) := by decide +kernel
theorem dX9_anchorY_1 : decode cX9_anchorY 1 = .ok (.iload_n 1, 1) := by decide +kernel
theorem dX9_anchorY_2 : decode cX9_anchorY 2 = .ok (.invokevirtual 229, 3) := by decide +kernel
theorem dX9_anchorY_5 : decode cX9_anchorY 5 = .ok (.aload_n 0, 1) := by decide +kernel
theorem dX9_anchorY_6 : decode cX9_anchorY 6 = .ok (.getfield 13, 3) := by decide +kernel
theorem dX9_anchorY_9 : decode cX9_anchorY 9 = .ok (.getfield 141, 3) := by decide +kernel
theorem dX9_anchorY_12 : decode cX9_anchorY 12 = .ok (.getfield 305, 3) := by decide +kernel
theorem dX9_anchorY_15 : decode cX9_anchorY 15 = .ok (.iload_n 1, 1) := by decide +kernel
theorem dX9_anchorY_16 : decode cX9_anchorY 16 = .ok (.iaload, 1) := by decide +kernel
theorem dX9_anchorY_17 : decode cX9_anchorY 17 = .ok (.ireturn, 1) := by decide +kernel
theorem dX9_stringLength_0 : decode cX9_stringLength 0 = .ok (.aload_n 0, 1) := by decide +kernel
theorem dX9_stringLength_1 : decode cX9_stringLength 1 = .ok (.iload_n 1, 1) := by decide +kernel
theorem dX9_stringLength_2 : decode cX9_stringLength 2 = .ok (.invokevirtual 229, 3) := by decide +kernel
theorem dX9_stringLength_5 : decode cX9_stringLength 5 = .ok (.aload_n 0, 1) := by decide +kernel
theorem dX9_stringLength_6 : decode cX9_stringLength 6 = .ok (.getfield 13, 3) := by decide +kernel
theorem dX9_stringLength_9 : decode cX9_stringLength 9 = .ok (.getfield 141, 3) := by decide +kernel
theorem dX9_stringLength_12 : decode cX9_stringLength 12 = .ok (.getfield 308, 3) := by decide +kernel
theorem dX9_stringLength_15 : decode cX9_stringLength 15 = .ok (.iload_n 1, 1) := by decide +kernel
theorem dX9_stringLength_16 : decode cX9_stringLength 16 = .ok (.iaload, 1) := by decide +kernel
theorem dX9_stringLength_17 : decode cX9_stringLength 17 = .ok (.ireturn, 1) := by decide +kernel
theorem dX9_colourOf_0 : decode cX9_colourOf 0 = .ok (.aload_n 0, 1) := by decide +kernel
theorem dX9_colourOf_1 : decode cX9_colourOf 1 = .ok (.iload_n 1, 1) := by decide +kernel
theorem dX9_colourOf_2 : decode cX9_colourOf 2 = .ok (.invokevirtual 229, 3) := by decide +kernel
theorem dX9_colourOf_5 : decode cX9_colourOf 5 = .ok (.aload_n 0, 1) := by decide +kernel
theorem dX9_colourOf_6 : decode cX9_colourOf 6 = .ok (.getfield 13, 3) := by decide +kernel
theorem dX9_colourOf_9 : decode cX9_colourOf 9 = .ok (.getfield 141, 3) := by decide +kernel
theorem dX9_colourOf_12 : decode cX9_colourOf 12 = .ok (.getfield 310, 3) := by decide +kernel
theorem dX9_colourOf_15 : decode cX9_colourOf 15 = .ok (.iload_n 1, 1) := by decide +kernel
theorem dX9_colourOf_16 : decode cX9_colourOf 16 = .ok (.iaload, 1) := by decide +kernel
theorem dX9_colourOf_17 : decode cX9_colourOf 17 = .ok (.ireturn, 1) := by decide +kernel
theorem dX9_knots_0 : decode cX9_knots 0 = .ok (.aload_n 0, 1) := by decide +kernel
theorem dX9_knots_1 : decode cX9_knots 1 = .ok (.iload_n 1, 1) := by decide +kernel
theorem dX9_knots_2 : decode cX9_knots 2 = .ok (.invokevirtual 229, 3) := by decide +kernel
theorem dX9_knots_5 : decode cX9_knots 5 = .ok (.aload_n 0, 1) := by decide +kernel
theorem dX9_knots_6 : decode cX9_knots 6 = .ok (.getfield 13, 3) := by decide +kernel
theorem dX9_knots_9 : decode cX9_knots 9 = .ok (.getfield 141, 3) := by decide +kernel
theorem dX9_knots_12 : decode cX9_knots 12 = .ok (.getfield 253, 3) := by decide +kernel
theorem dX9_knots_15 : decode cX9_knots 15 = .ok (.iload_n 1, 1) := by decide +kernel
theorem dX9_knots_16 : decode cX9_knots 16 = .ok (.iaload, 1) := by decide +kernel
theorem dX9_knots_17 : decode cX9_knots 17 = .ok (.ireturn, 1) := by decide +kernel
theorem dX9_purse_0 : decode cX9_purse 0 = .ok (.aload_n 0, 1) := by decide +kernel
theorem dX9_purse_1 : decode cX9_purse 1 = .ok (.iload_n 1, 1) := by decide +kernel
theorem dX9_purse_2 : decode cX9_purse 2 = .ok (.invokevirtual 229, 3) := by decide +kernel
theorem dX9_purse_5 : decode cX9_purse 5 = .ok (.aload_n 0, 1) := by decide +kernel
theorem dX9_purse_6 : decode cX9_purse 6 = .ok (.getfield 13, 3) := by decide +kernel
theorem dX9_purse_9 : decode cX9_purse 9 = .ok (.getfield 141, 3) := by decide +kernel
theorem dX9_purse_12 : decode cX9_purse 12 = .ok (.getfield 261, 3) := by decide +kernel
theorem dX9_purse_15 : decode cX9_purse 15 = .ok (.iload_n 1, 1) := by decide +kernel
theorem dX9_purse_16 : decode cX9_purse 16 = .ok (.iaload, 1) := by decide +kernel
theorem dX9_purse_17 : decode cX9_purse 17 = .ok (.ireturn, 1) := by decide +kernel
theorem dX9_stateOf_0 : decode cX9_stateOf 0 = .ok (.aload_n 0, 1) := by decide +kernel
theorem dX9_stateOf_1 : decode cX9_stateOf 1 = .ok (.iload_n 1, 1) := by decide +kernel
theorem dX9_stateOf_2 : decode cX9_stateOf 2 = .ok (.invokevirtual 229, 3) := by decide +kernel
theorem dX9_stateOf_5 : decode cX9_stateOf 5 = .ok (.aload_n 0, 1) := by decide +kernel
theorem dX9_stateOf_6 : decode cX9_stateOf 6 = .ok (.getfield 13, 3) := by decide +kernel
theorem dX9_stateOf_9 : decode cX9_stateOf 9 = .ok (.getfield 141, 3) := by decide +kernel
theorem dX9_stateOf_12 : decode cX9_stateOf 12 = .ok (.getfield 177, 3) := by decide +kernel
theorem dX9_stateOf_15 : decode cX9_stateOf 15 = .ok (.iload_n 1, 1) := by decide +kernel
theorem dX9_stateOf_16 : decode cX9_stateOf 16 = .ok (.iaload, 1) := by decide +kernel
theorem dX9_stateOf_17 : decode cX9_stateOf 17 = .ok (.ireturn, 1) := by decide +kernel
theorem dX9_zoneOf_0 : decode cX9_zoneOf 0 = .ok (.aload_n 0, 1) := by decide +kernel
theorem dX9_zoneOf_1 : decode cX9_zoneOf 1 = .ok (.iload_n 1, 1) := by decide +kernel
theorem dX9_zoneOf_2 : decode cX9_zoneOf 2 = .ok (.invokevirtual 229, 3) := by decide +kernel
theorem dX9_zoneOf_5 : decode cX9_zoneOf 5 = .ok (.aload_n 0, 1) := by decide +kernel
theorem dX9_zoneOf_6 : decode cX9_zoneOf 6 = .ok (.getfield 13, 3) := by decide +kernel
theorem dX9_zoneOf_9 : decode cX9_zoneOf 9 = .ok (.getfield 141, 3) := by decide +kernel
theorem dX9_zoneOf_12 : decode cX9_zoneOf 12 = .ok (.getfield 313, 3) := by decide +kernel
theorem dX9_zoneOf_15 : decode cX9_zoneOf 15 = .ok (.iload_n 1, 1) := by decide +kernel
theorem dX9_zoneOf_16 : decode cX9_zoneOf 16 = .ok (.iaload, 1) := by decide +kernel
theorem dX9_zoneOf_17 : decode cX9_zoneOf 17 = .ok (.ireturn, 1) := by decide +kernel
theorem dX9_tangles_0 : decode cX9_tangles 0 = .ok (.aload_n 0, 1) := by decide +kernel
theorem dX9_tangles_1 : decode cX9_tangles 1 = .ok (.iload_n 1, 1) := by decide +kernel
theorem dX9_tangles_2 : decode cX9_tangles 2 = .ok (.invokevirtual 229, 3) := by decide +kernel
theorem dX9_tangles_5 : decode cX9_tangles 5 = .ok (.aload_n 0, 1) := by decide +kernel
theorem dX9_tangles_6 : decode cX9_tangles 6 = .ok (.getfield 13, 3) := by decide +kernel
theorem dX9_tangles_9 : decode cX9_tangles 9 = .ok (.getfield 141, 3) := by decide +kernel
theorem dX9_tangles_12 : decode cX9_tangles 12 = .ok (.getfield 316, 3) := by decide +kernel
theorem dX9_tangles_15 : decode cX9_tangles 15 = .ok (.iload_n 1, 1) := by decide +kernel
theorem dX9_tangles_16 : decode cX9_tangles 16 = .ok (.iaload, 1) := by decide +kernel
theorem dX9_tangles_17 : decode cX9_tangles 17 = .ok (.ireturn, 1) := by decide +kernel
theorem dX9_reach_0 : decode cX9_reach 0 = .ok (.aload_n 0, 1) := by decide +kernel
theorem dX9_reach_1 : decode cX9_reach 1 = .ok (.iload_n 1, 1) := by decide +kernel
theorem dX9_reach_2 : decode cX9_reach 2 = .ok (.invokevirtual 229, 3) := by decide +kernel
theorem dX9_reach_5 : decode cX9_reach 5 = .ok (.iload_n 2, 1) := by decide +kernel
theorem dX9_reach_6 : decode cX9_reach 6 = .ok (.invokestatic 281, 3) := by decide +kernel
theorem dX9_reach_9 : decode cX9_reach 9 = .ok (.aload_n 0, 1) := by decide +kernel
theorem dX9_reach_10 : decode cX9_reach 10 = .ok (.getfield 13, 3) := by decide +kernel
theorem dX9_reach_13 : decode cX9_reach 13 = .ok (.iload_n 1, 1) := by decide +kernel
theorem dX9_reach_14 : decode cX9_reach 14 = .ok (.iload_n 2, 1) := by decide +kernel
theorem dX9_reach_15 : decode cX9_reach 15 = .ok (.invokevirtual 237, 3) := by decide +kernel
theorem dX9_reach_18 : decode cX9_reach 18 = .ok (.ireturn, 1) := by decide +kernel
theorem dX9_endX_0 : decode cX9_endX 0 = .ok (.aload_n 0, 1) := by decide +kernel
theorem dX9_endX_1 : decode cX9_endX 1 = .ok (.iload_n 1, 1) := by decide +kernel
theorem dX9_endX_2 : decode cX9_endX 2 = .ok (.invokevirtual 229, 3) := by decide +kernel
theorem dX9_endX_5 : decode cX9_endX 5 = .ok (.iload_n 2, 1) := by decide +kernel
theorem dX9_endX_6 : decode cX9_endX 6 = .ok (.invokestatic 281, 3) := by decide +kernel
theorem dX9_endX_9 : decode cX9_endX 9 = .ok (.aload_n 0, 1) := by decide +kernel
theorem dX9_endX_10 : decode cX9_endX 10 = .ok (.getfield 13, 3) := by decide +kernel
theorem dX9_endX_13 : decode cX9_endX 13 = .ok (.iload_n 1, 1) := by decide +kernel
theorem dX9_endX_14 : decode cX9_endX 14 = .ok (.aload_n 0, 1) := by decide +kernel
theorem dX9_endX_15 : decode cX9_endX 15 = .ok (.getfield 13, 3) := by decide +kernel
theorem dX9_endX_18 : decode cX9_endX 18 = .ok (.iload_n 1, 1) := by decide +kernel
theorem dX9_endX_19 : decode cX9_endX 19 = .ok (.iload_n 2, 1) := by decide +kernel
theorem dX9_endX_20 : decode cX9_endX 20 = .ok (.invokevirtual 237, 3) := by decide +kernel
theorem dX9_endX_23 : decode cX9_endX 23 = .ok (.aload_n 0, 1) := by decide +kernel
theorem dX9_endX_24 : decode cX9_endX 24 = .ok (.getfield 13, 3) := by decide +kernel
theorem dX9_endX_27 : decode cX9_endX 27 = .ok (.iload_n 1, 1) := by decide +kernel
theorem dX9_endX_28 : decode cX9_endX 28 = .ok (.iload_n 2, 1) := by decide +kernel
theorem dX9_endX_29 : decode cX9_endX 29 = .ok (.invokevirtual 319, 3) := by decide +kernel
theorem dX9_endX_32 : decode cX9_endX 32 = .ok (.invokevirtual 322, 3) := by decide +kernel
theorem dX9_endX_35 : decode cX9_endX 35 = .ok (.ireturn, 1) := by decide +kernel
theorem dX9_endY_0 : decode cX9_endY 0 = .ok (.aload_n 0, 1) := by decide +kernel
theorem dX9_endY_1 : decode cX9_endY 1 = .ok (.iload_n 1, 1) := by decide +kernel
theorem dX9_endY_2 : decode cX9_endY 2 = .ok (.invokevirtual 229, 3) := by decide +kernel
theorem dX9_endY_5 : decode cX9_endY 5 = .ok (.iload_n 2, 1) := by decide +kernel
theorem dX9_endY_6 : decode cX9_endY 6 = .ok (.invokestatic 281, 3) := by decide +kernel
theorem dX9_endY_9 : decode cX9_endY 9 = .ok (.aload_n 0, 1) := by decide +kernel
theorem dX9_endY_10 : decode cX9_endY 10 = .ok (.getfield 13, 3) := by decide +kernel
theorem dX9_endY_13 : decode cX9_endY 13 = .ok (.iload_n 1, 1) := by decide +kernel
theorem dX9_endY_14 : decode cX9_endY 14 = .ok (.aload_n 0, 1) := by decide +kernel
theorem dX9_endY_15 : decode cX9_endY 15 = .ok (.getfield 13, 3) := by decide +kernel
theorem dX9_endY_18 : decode cX9_endY 18 = .ok (.iload_n 1, 1) := by decide +kernel
theorem dX9_endY_19 : decode cX9_endY 19 = .ok (.iload_n 2, 1) := by decide +kernel
theorem dX9_endY_20 : decode cX9_endY 20 = .ok (.invokevirtual 237, 3) := by decide +kernel
theorem dX9_endY_23 : decode cX9_endY 23 = .ok (.aload_n 0, 1) := by decide +kernel
theorem dX9_endY_24 : decode cX9_endY 24 = .ok (.getfield 13, 3) := by decide +kernel
theorem dX9_endY_27 : decode cX9_endY 27 = .ok (.iload_n 1, 1) := by decide +kernel
theorem dX9_endY_28 : decode cX9_endY 28 = .ok (.iload_n 2, 1) := by decide +kernel
theorem dX9_endY_29 : decode cX9_endY 29 = .ok (.invokevirtual 319, 3) := by decide +kernel
theorem dX9_endY_32 : decode cX9_endY 32 = .ok (.invokevirtual 325, 3) := by decide +kernel
theorem dX9_endY_35 : decode cX9_endY 35 = .ok (.ireturn, 1) := by decide +kernel
theorem dX9_canFly_0 : decode cX9_canFly 0 = .ok (.aload_n 0, 1) := by decide +kernel
theorem dX9_canFly_1 : decode cX9_canFly 1 = .ok (.iload_n 1, 1) := by decide +kernel
theorem dX9_canFly_2 : decode cX9_canFly 2 = .ok (.invokevirtual 229, 3) := by decide +kernel
theorem dX9_canFly_5 : decode cX9_canFly 5 = .ok (.iload_n 2, 1) := by decide +kernel
theorem dX9_canFly_6 : decode cX9_canFly 6 = .ok (.invokestatic 281, 3) := by decide +kernel
theorem dX9_canFly_9 : decode cX9_canFly 9 = .ok (.aload_n 0, 1) := by decide +kernel
theorem dX9_canFly_10 : decode cX9_canFly 10 = .ok (.getfield 13, 3) := by decide +kernel
theorem dX9_canFly_13 : decode cX9_canFly 13 = .ok (.iload_n 1, 1) := by decide +kernel
theorem dX9_canFly_14 : decode cX9_canFly 14 = .ok (.iload_n 2, 1) := by decide +kernel
theorem dX9_canFly_15 : decode cX9_canFly 15 = .ok (.invokevirtual 328, 3) := by decide +kernel
theorem dX9_canFly_18 : decode cX9_canFly 18 = .ok (.ireturn, 1) := by decide +kernel
theorem dX9_doCross_0 : decode cX9_doCross 0 = .ok (.aload_n 0, 1) := by decide +kernel
theorem dX9_doCross_1 : decode cX9_doCross 1 = .ok (.iload_n 1, 1) := by decide +kernel
theorem dX9_doCross_2 : decode cX9_doCross 2 = .ok (.invokevirtual 229, 3) := by decide +kernel
theorem dX9_doCross_5 : decode cX9_doCross 5 = .ok (.aload_n 0, 1) := by decide +kernel
theorem dX9_doCross_6 : decode cX9_doCross 6 = .ok (.iload_n 2, 1) := by decide +kernel
theorem dX9_doCross_7 : decode cX9_doCross 7 = .ok (.invokevirtual 229, 3) := by decide +kernel
theorem dX9_doCross_10 : decode cX9_doCross 10 = .ok (.iload_n 1, 1) := by decide +kernel
theorem dX9_doCross_11 : decode cX9_doCross 11 = .ok (.iload_n 2, 1) := by decide +kernel
theorem dX9_doCross_12 : decode cX9_doCross 12 = .ok (.invokestatic 332, 3) := by decide +kernel
theorem dX9_doCross_15 : decode cX9_doCross 15 = .ok (.iload_n 3, 1) := by decide +kernel
theorem dX9_doCross_16 : decode cX9_doCross 16 = .ok (.invokestatic 281, 3) := by decide +kernel
theorem dX9_doCross_19 : decode cX9_doCross 19 = .ok (.aload_n 0, 1) := by decide +kernel
theorem dX9_doCross_20 : decode cX9_doCross 20 = .ok (.getfield 13, 3) := by decide +kernel
theorem dX9_doCross_23 : decode cX9_doCross 23 = .ok (.iload_n 1, 1) := by decide +kernel
theorem dX9_doCross_24 : decode cX9_doCross 24 = .ok (.iload_n 2, 1) := by decide +kernel
theorem dX9_doCross_25 : decode cX9_doCross 25 = .ok (.iload_n 3, 1) := by decide +kernel
theorem dX9_doCross_26 : decode cX9_doCross 26 = .ok (.invokevirtual 335, 3) := by decide +kernel
theorem dX9_doCross_29 : decode cX9_doCross 29 = .ok (.ireturn, 1) := by decide +kernel
theorem dX9_permitCount_0 : decode cX9_permitCount 0 = .ok (.aload_n 0, 1) := by decide +kernel
theorem dX9_permitCount_1 : decode cX9_permitCount 1 = .ok (.getfield 13, 3) := by decide +kernel
theorem dX9_permitCount_4 : decode cX9_permitCount 4 = .ok (.getfield 206, 3) := by decide +kernel
theorem dX9_permitCount_7 : decode cX9_permitCount 7 = .ok (.getfield 252, 3) := by decide +kernel
theorem dX9_permitCount_10 : decode cX9_permitCount 10 = .ok (.ireturn, 1) := by decide +kernel
theorem dX9_permitKite_0 : decode cX9_permitKite 0 = .ok (.aload_n 0, 1) := by decide +kernel
theorem dX9_permitKite_1 : decode cX9_permitKite 1 = .ok (.iload_n 1, 1) := by decide +kernel
theorem dX9_permitKite_2 : decode cX9_permitKite 2 = .ok (.invokevirtual 339, 3) := by decide +kernel
theorem dX9_permitKite_5 : decode cX9_permitKite 5 = .ok (.aload_n 0, 1) := by decide +kernel
theorem dX9_permitKite_6 : decode cX9_permitKite 6 = .ok (.getfield 13, 3) := by decide +kernel
theorem dX9_permitKite_9 : decode cX9_permitKite 9 = .ok (.getfield 206, 3) := by decide +kernel
theorem dX9_permitKite_12 : decode cX9_permitKite 12 = .ok (.getfield 342, 3) := by decide +kernel
theorem dX9_permitKite_15 : decode cX9_permitKite 15 = .ok (.iload_n 1, 1) := by decide +kernel
theorem dX9_permitKite_16 : decode cX9_permitKite 16 = .ok (.iaload, 1) := by decide +kernel
theorem dX9_permitKite_17 : decode cX9_permitKite 17 = .ok (.ireturn, 1) := by decide +kernel
theorem dX9_permitStart_0 : decode cX9_permitStart 0 = .ok (.aload_n 0, 1) := by decide +kernel
theorem dX9_permitStart_1 : decode cX9_permitStart 1 = .ok (.iload_n 1, 1) := by decide +kernel
theorem dX9_permitStart_2 : decode cX9_permitStart 2 = .ok (.invokevirtual 339, 3) := by decide +kernel
theorem dX9_permitStart_5 : decode cX9_permitStart 5 = .ok (.aload_n 0, 1) := by decide +kernel
theorem dX9_permitStart_6 : decode cX9_permitStart 6 = .ok (.getfield 13, 3) := by decide +kernel
theorem dX9_permitStart_9 : decode cX9_permitStart 9 = .ok (.getfield 206, 3) := by decide +kernel
theorem dX9_permitStart_12 : decode cX9_permitStart 12 = .ok (.getfield 345, 3) := by decide +kernel
theorem dX9_permitStart_15 : decode cX9_permitStart 15 = .ok (.iload_n 1, 1) := by decide +kernel
theorem dX9_permitStart_16 : decode cX9_permitStart 16 = .ok (.iaload, 1) := by decide +kernel
theorem dX9_permitStart_17 : decode cX9_permitStart 17 = .ok (.ireturn, 1) := by decide +kernel
theorem dX9_permitDuration_0 : decode cX9_permitDuration 0 = .ok (.aload_n 0, 1) := by decide +kernel
theorem dX9_permitDuration_1 : decode cX9_permitDuration 1 = .ok (.iload_n 1, 1) := by decide +kernel
theorem dX9_permitDuration_2 : decode cX9_permitDuration 2 = .ok (.invokevirtual 339, 3) := by decide +kernel
theorem dX9_permitDuration_5 : decode cX9_permitDuration 5 = .ok (.aload_n 0, 1) := by decide +kernel
theorem dX9_permitDuration_6 : decode cX9_permitDuration 6 = .ok (.getfield 13, 3) := by decide +kernel
theorem dX9_permitDuration_9 : decode cX9_permitDuration 9 = .ok (.getfield 206, 3) := by decide +kernel
theorem dX9_permitDuration_12 : decode cX9_permitDuration 12 = .ok (.getfield 348, 3) := by decide +kernel
theorem dX9_permitDuration_15 : decode cX9_permitDuration 15 = .ok (.iload_n 1, 1) := by decide +kernel
theorem dX9_permitDuration_16 : decode cX9_permitDuration 16 = .ok (.iaload, 1) := by decide +kernel
theorem dX9_permitDuration_17 : decode cX9_permitDuration 17 = .ok (.ireturn, 1) := by decide +kernel
theorem dX9_hasPermit_0 : decode cX9_hasPermit 0 = .ok (.aload_n 0, 1) := by decide +kernel
theorem dX9_hasPermit_1 : decode cX9_hasPermit 1 = .ok (.iload_n 1, 1) := by decide +kernel
theorem dX9_hasPermit_2 : decode cX9_hasPermit 2 = .ok (.invokevirtual 229, 3) := by decide +kernel
theorem dX9_hasPermit_5 : decode cX9_hasPermit 5 = .ok (.iload_n 2, 1) := by decide +kernel
theorem dX9_hasPermit_6 : decode cX9_hasPermit 6 = .ok (.invokestatic 281, 3) := by decide +kernel
theorem dX9_hasPermit_9 : decode cX9_hasPermit 9 = .ok (.aload_n 0, 1) := by decide +kernel
theorem dX9_hasPermit_10 : decode cX9_hasPermit 10 = .ok (.getfield 13, 3) := by decide +kernel
theorem dX9_hasPermit_13 : decode cX9_hasPermit 13 = .ok (.getfield 206, 3) := by decide +kernel
theorem dX9_hasPermit_16 : decode cX9_hasPermit 16 = .ok (.iload_n 1, 1) := by decide +kernel
theorem dX9_hasPermit_17 : decode cX9_hasPermit 17 = .ok (.iload_n 2, 1) := by decide +kernel
theorem dX9_hasPermit_18 : decode cX9_hasPermit 18 = .ok (.iload_n 2, 1) := by decide +kernel
theorem dX9_hasPermit_19 : decode cX9_hasPermit 19 = .ok (.iconst 1, 1) := by decide +kernel
theorem dX9_hasPermit_20 : decode cX9_hasPermit 20 = .ok (.iadd, 1) := by decide +kernel
theorem dX9_hasPermit_21 : decode cX9_hasPermit 21 = .ok (.invokevirtual 351, 3) := by decide +kernel
theorem dX9_hasPermit_24 : decode cX9_hasPermit 24 = .ok (.ireturn, 1) := by decide +kernel
theorem dX9_whyNotPermit_0 : decode cX9_whyNotPermit 0 = .ok (.aload_n 0, 1) := by decide +kernel
theorem dX9_whyNotPermit_1 : decode cX9_whyNotPermit 1 = .ok (.iload_n 1, 1) := by decide +kernel
theorem dX9_whyNotPermit_2 : decode cX9_whyNotPermit 2 = .ok (.iload_n 2, 1) := by decide +kernel
theorem dX9_whyNotPermit_3 : decode cX9_whyNotPermit 3 = .ok (.iload_n 3, 1) := by decide +kernel
theorem dX9_whyNotPermit_4 : decode cX9_whyNotPermit 4 = .ok (.invokevirtual 247, 3) := by decide +kernel
theorem dX9_whyNotPermit_7 : decode cX9_whyNotPermit 7 = .ok (.aload_n 0, 1) := by decide +kernel
theorem dX9_whyNotPermit_8 : decode cX9_whyNotPermit 8 = .ok (.getfield 13, 3) := by decide +kernel
theorem dX9_whyNotPermit_11 : decode cX9_whyNotPermit 11 = .ok (.iload_n 1, 1) := by decide +kernel
theorem dX9_whyNotPermit_12 : decode cX9_whyNotPermit 12 = .ok (.iload_n 2, 1) := by decide +kernel
theorem dX9_whyNotPermit_13 : decode cX9_whyNotPermit 13 = .ok (.iload_n 3, 1) := by decide +kernel
theorem dX9_whyNotPermit_14 : decode cX9_whyNotPermit 14 = .ok (.invokevirtual 186, 3) := by decide +kernel
theorem dX9_whyNotPermit_17 : decode cX9_whyNotPermit 17 = .ok (.ireturn, 1) := by decide +kernel
theorem dX9_kiteInTheWay_0 : decode cX9_kiteInTheWay 0 = .ok (.aload_n 0, 1) := by decide +kernel
theorem dX9_kiteInTheWay_1 : decode cX9_kiteInTheWay 1 = .ok (.iload_n 1, 1) := by decide +kernel
theorem dX9_kiteInTheWay_2 : decode cX9_kiteInTheWay 2 = .ok (.iload_n 2, 1) := by decide +kernel
theorem dX9_kiteInTheWay_3 : decode cX9_kiteInTheWay 3 = .ok (.iload_n 3, 1) := by decide +kernel
theorem dX9_kiteInTheWay_4 : decode cX9_kiteInTheWay 4 = .ok (.invokevirtual 247, 3) := by decide +kernel
theorem dX9_kiteInTheWay_7 : decode cX9_kiteInTheWay 7 = .ok (.aload_n 0, 1) := by decide +kernel
theorem dX9_kiteInTheWay_8 : decode cX9_kiteInTheWay 8 = .ok (.getfield 13, 3) := by decide +kernel
theorem dX9_kiteInTheWay_11 : decode cX9_kiteInTheWay 11 = .ok (.iload_n 1, 1) := by decide +kernel
theorem dX9_kiteInTheWay_12 : decode cX9_kiteInTheWay 12 = .ok (.iload_n 2, 1) := by decide +kernel
theorem dX9_kiteInTheWay_13 : decode cX9_kiteInTheWay 13 = .ok (.iload_n 2, 1) := by decide +kernel
theorem dX9_kiteInTheWay_14 : decode cX9_kiteInTheWay 14 = .ok (.iload_n 3, 1) := by decide +kernel
theorem dX9_kiteInTheWay_15 : decode cX9_kiteInTheWay 15 = .ok (.iadd, 1) := by decide +kernel
theorem dX9_kiteInTheWay_16 : decode cX9_kiteInTheWay 16 = .ok (.invokevirtual 354, 3) := by decide +kernel
theorem dX9_kiteInTheWay_19 : decode cX9_kiteInTheWay 19 = .ok (.ireturn, 1) := by decide +kernel
theorem dX9_earliestStart_0 : decode cX9_earliestStart 0 = .ok (.aload_n 0, 1) := by decide +kernel
theorem dX9_earliestStart_1 : decode cX9_earliestStart 1 = .ok (.iload_n 1, 1) := by decide +kernel
theorem dX9_earliestStart_2 : decode cX9_earliestStart 2 = .ok (.invokevirtual 229, 3) := by decide +kernel
theorem dX9_earliestStart_5 : decode cX9_earliestStart 5 = .ok (.iload_n 2, 1) := by decide +kernel
theorem dX9_earliestStart_6 : decode cX9_earliestStart 6 = .ok (.iconst 1, 1) := by decide +kernel
theorem dX9_earliestStart_7 : decode cX9_earliestStart 7 = .ok (.bipush 24, 2) := by decide +kernel
theorem dX9_earliestStart_9 : decode cX9_earliestStart 9 = .ok (.invokestatic 110, 3) := by decide +kernel
theorem dX9_earliestStart_12 : decode cX9_earliestStart 12 = .ok (.aload_n 0, 1) := by decide +kernel
theorem dX9_earliestStart_13 : decode cX9_earliestStart 13 = .ok (.getfield 13, 3) := by decide +kernel
theorem dX9_earliestStart_16 : decode cX9_earliestStart 16 = .ok (.getfield 234, 3) := by decide +kernel
theorem dX9_earliestStart_19 : decode cX9_earliestStart 19 = .ok (.istore_n 3, 1) := by decide +kernel
theorem dX9_earliestStart_20 : decode cX9_earliestStart 20 = .ok (.iload_n 3, 1) := by decide +kernel
theorem dX9_earliestStart_21 : decode cX9_earliestStart 21 = .ok (.aload_n 0, 1) := by decide +kernel
theorem dX9_earliestStart_22 : decode cX9_earliestStart 22 = .ok (.getfield 13, 3) := by decide +kernel
theorem dX9_earliestStart_25 : decode cX9_earliestStart 25 = .ok (.getfield 234, 3) := by decide +kernel
theorem dX9_earliestStart_28 : decode cX9_earliestStart 28 = .ok (.bipush 60, 2) := by decide +kernel
theorem dX9_earliestStart_30 : decode cX9_earliestStart 30 = .ok (.iadd, 1) := by decide +kernel
theorem dX9_earliestStart_31 : decode cX9_earliestStart 31 = .ok (.if_icmp .gt 24, 3) := by decide +kernel
theorem dX9_earliestStart_34 : decode cX9_earliestStart 34 = .ok (.aload_n 0, 1) := by decide +kernel
theorem dX9_earliestStart_35 : decode cX9_earliestStart 35 = .ok (.getfield 13, 3) := by decide +kernel
theorem dX9_earliestStart_38 : decode cX9_earliestStart 38 = .ok (.iload_n 1, 1) := by decide +kernel
theorem dX9_earliestStart_39 : decode cX9_earliestStart 39 = .ok (.iload_n 3, 1) := by decide +kernel
theorem dX9_earliestStart_40 : decode cX9_earliestStart 40 = .ok (.iload_n 2, 1) := by decide +kernel
theorem dX9_earliestStart_41 : decode cX9_earliestStart 41 = .ok (.invokevirtual 186, 3) := by decide +kernel
theorem dX9_earliestStart_44 : decode cX9_earliestStart 44 = .ok (.ifCond .ne 5, 3) := by decide +kernel
theorem dX9_earliestStart_47 : decode cX9_earliestStart 47 = .ok (.iload_n 3, 1) := by decide +kernel
theorem dX9_earliestStart_48 : decode cX9_earliestStart 48 = .ok (.ireturn, 1) := by decide +kernel
theorem dX9_earliestStart_49 : decode cX9_earliestStart 49 = .ok (.iinc 3 1, 3) := by decide +kernel
theorem dX9_earliestStart_52 : decode cX9_earliestStart 52 = .ok (.goto (-32), 3) := by decide +kernel
theorem dX9_earliestStart_55 : decode cX9_earliestStart 55 = .ok (.iconst (-1), 1) := by decide +kernel
theorem dX9_earliestStart_56 : decode cX9_earliestStart 56 = .ok (.ireturn, 1) := by decide +kernel
theorem dX9_bestKnots_0 : decode cX9_bestKnots 0 = .ok (.aload_n 0, 1) := by decide +kernel
theorem dX9_bestKnots_1 : decode cX9_bestKnots 1 = .ok (.iload_n 1, 1) := by decide +kernel
theorem dX9_bestKnots_2 : decode cX9_bestKnots 2 = .ok (.invokevirtual 229, 3) := by decide +kernel
theorem dX9_bestKnots_5 : decode cX9_bestKnots 5 = .ok (.iload_n 2, 1) := by decide +kernel
theorem dX9_bestKnots_6 : decode cX9_bestKnots 6 = .ok (.invokestatic 281, 3) := by decide +kernel
theorem dX9_bestKnots_9 : decode cX9_bestKnots 9 = .ok (.aload_n 0, 1) := by decide +kernel
theorem dX9_bestKnots_10 : decode cX9_bestKnots 10 = .ok (.getfield 13, 3) := by decide +kernel
theorem dX9_bestKnots_13 : decode cX9_bestKnots 13 = .ok (.iload_n 1, 1) := by decide +kernel
theorem dX9_bestKnots_14 : decode cX9_bestKnots 14 = .ok (.iload_n 2, 1) := by decide +kernel
theorem dX9_bestKnots_15 : decode cX9_bestKnots 15 = .ok (.invokevirtual 319, 3) := by decide +kernel
theorem dX9_bestKnots_18 : decode cX9_bestKnots 18 = .ok (.istore_n 3, 1) := by decide +kernel
theorem dX9_bestKnots_19 : decode cX9_bestKnots 19 = .ok (.iconst (-1), 1) := by decide +kernel
theorem dX9_bestKnots_20 : decode cX9_bestKnots 20 = .ok (.istore 4, 2) := by decide +kernel
theorem dX9_bestKnots_22 : decode cX9_bestKnots 22 = .ok (.iconst 0, 1) := by decide +kernel
theorem dX9_bestKnots_23 : decode cX9_bestKnots 23 = .ok (.istore 5, 2) := by decide +kernel
theorem dX9_bestKnots_25 : decode cX9_bestKnots 25 = .ok (.iconst 0, 1) := by decide +kernel
theorem dX9_bestKnots_26 : decode cX9_bestKnots 26 = .ok (.istore 6, 2) := by decide +kernel
theorem dX9_bestKnots_28 : decode cX9_bestKnots 28 = .ok (.iload 6, 2) := by decide +kernel
theorem dX9_bestKnots_30 : decode cX9_bestKnots 30 = .ok (.bipush 9, 2) := by decide +kernel
theorem dX9_bestKnots_32 : decode cX9_bestKnots 32 = .ok (.if_icmp .gt 51, 3) := by decide +kernel
theorem dX9_bestKnots_35 : decode cX9_bestKnots 35 = .ok (.aload_n 0, 1) := by decide +kernel
theorem dX9_bestKnots_36 : decode cX9_bestKnots 36 = .ok (.getfield 13, 3) := by decide +kernel
theorem dX9_bestKnots_39 : decode cX9_bestKnots 39 = .ok (.iload_n 1, 1) := by decide +kernel
theorem dX9_bestKnots_40 : decode cX9_bestKnots 40 = .ok (.iload 6, 2) := by decide +kernel
theorem dX9_bestKnots_42 : decode cX9_bestKnots 42 = .ok (.iload_n 3, 1) := by decide +kernel
theorem dX9_bestKnots_43 : decode cX9_bestKnots 43 = .ok (.invokevirtual 357, 3) := by decide +kernel
theorem dX9_bestKnots_46 : decode cX9_bestKnots 46 = .ok (.istore 7, 2) := by decide +kernel
theorem dX9_bestKnots_48 : decode cX9_bestKnots 48 = .ok (.iload 7, 2) := by decide +kernel
theorem dX9_bestKnots_50 : decode cX9_bestKnots 50 = .ok (.iload 5, 2) := by decide +kernel
theorem dX9_bestKnots_52 : decode cX9_bestKnots 52 = .ok (.if_icmp .le 25, 3) := by decide +kernel
theorem dX9_bestKnots_55 : decode cX9_bestKnots 55 = .ok (.aload_n 0, 1) := by decide +kernel
theorem dX9_bestKnots_56 : decode cX9_bestKnots 56 = .ok (.getfield 13, 3) := by decide +kernel
theorem dX9_bestKnots_59 : decode cX9_bestKnots 59 = .ok (.iload_n 1, 1) := by decide +kernel
theorem dX9_bestKnots_60 : decode cX9_bestKnots 60 = .ok (.iload 7, 2) := by decide +kernel
theorem dX9_bestKnots_62 : decode cX9_bestKnots 62 = .ok (.iload_n 3, 1) := by decide +kernel
theorem dX9_bestKnots_63 : decode cX9_bestKnots 63 = .ok (.invokevirtual 360, 3) := by decide +kernel
theorem dX9_bestKnots_66 : decode cX9_bestKnots 66 = .ok (.ifCond .eq 11, 3) := by decide +kernel
theorem dX9_bestKnots_69 : decode cX9_bestKnots 69 = .ok (.iload 6, 2) := by decide +kernel
theorem dX9_bestKnots_71 : decode cX9_bestKnots 71 = .ok (.istore 4, 2) := by decide +kernel
theorem dX9_bestKnots_73 : decode cX9_bestKnots 73 = .ok (.iload 7, 2) := by decide +kernel
theorem dX9_bestKnots_75 : decode cX9_bestKnots 75 = .ok (.istore 5, 2) := by decide +kernel
theorem dX9_bestKnots_77 : decode cX9_bestKnots 77 = .ok (.iinc 6 1, 3) := by decide +kernel
theorem dX9_bestKnots_80 : decode cX9_bestKnots 80 = .ok (.goto (-52), 3) := by decide +kernel
theorem dX9_bestKnots_83 : decode cX9_bestKnots 83 = .ok (.iload 4, 2) := by decide +kernel
theorem dX9_bestKnots_85 : decode cX9_bestKnots 85 = .ok (.ireturn, 1) := by decide +kernel
theorem dX9_guiltyKite_0 : decode cX9_guiltyKite 0 = .ok (.aload_n 0, 1) := by decide +kernel
theorem dX9_guiltyKite_1 : decode cX9_guiltyKite 1 = .ok (.iload_n 1, 1) := by decide +kernel
theorem dX9_guiltyKite_2 : decode cX9_guiltyKite 2 = .ok (.invokevirtual 229, 3) := by decide +kernel
theorem dX9_guiltyKite_5 : decode cX9_guiltyKite 5 = .ok (.aload_n 0, 1) := by decide +kernel
theorem dX9_guiltyKite_6 : decode cX9_guiltyKite 6 = .ok (.iload_n 2, 1) := by decide +kernel
theorem dX9_guiltyKite_7 : decode cX9_guiltyKite 7 = .ok (.invokevirtual 229, 3) := by decide +kernel
theorem dX9_guiltyKite_10 : decode cX9_guiltyKite 10 = .ok (.iload_n 1, 1) := by decide +kernel
theorem dX9_guiltyKite_11 : decode cX9_guiltyKite 11 = .ok (.iload_n 2, 1) := by decide +kernel
theorem dX9_guiltyKite_12 : decode cX9_guiltyKite 12 = .ok (.invokestatic 332, 3) := by decide +kernel
theorem dX9_guiltyKite_15 : decode cX9_guiltyKite 15 = .ok (.aload_n 0, 1) := by decide +kernel
theorem dX9_guiltyKite_16 : decode cX9_guiltyKite 16 = .ok (.iload_n 1, 1) := by decide +kernel
theorem dX9_guiltyKite_17 : decode cX9_guiltyKite 17 = .ok (.iconst 1, 1) := by decide +kernel
theorem dX9_guiltyKite_18 : decode cX9_guiltyKite 18 = .ok (.invokevirtual 241, 3) := by decide +kernel
theorem dX9_guiltyKite_21 : decode cX9_guiltyKite 21 = .ok (.aload_n 0, 1) := by decide +kernel
theorem dX9_guiltyKite_22 : decode cX9_guiltyKite 22 = .ok (.iload_n 2, 1) := by decide +kernel
theorem dX9_guiltyKite_23 : decode cX9_guiltyKite 23 = .ok (.iconst 1, 1) := by decide +kernel
theorem dX9_guiltyKite_24 : decode cX9_guiltyKite 24 = .ok (.invokevirtual 241, 3) := by decide +kernel
theorem dX9_guiltyKite_27 : decode cX9_guiltyKite 27 = .ok (.aload_n 0, 1) := by decide +kernel
theorem dX9_guiltyKite_28 : decode cX9_guiltyKite 28 = .ok (.getfield 13, 3) := by decide +kernel
theorem dX9_guiltyKite_31 : decode cX9_guiltyKite 31 = .ok (.iload_n 1, 1) := by decide +kernel
theorem dX9_guiltyKite_32 : decode cX9_guiltyKite 32 = .ok (.iload_n 2, 1) := by decide +kernel
theorem dX9_guiltyKite_33 : decode cX9_guiltyKite 33 = .ok (.invokevirtual 363, 3) := by decide +kernel
theorem dX9_guiltyKite_36 : decode cX9_guiltyKite 36 = .ok (.ireturn, 1) := by decide +kernel
theorem dX9_verdictsIn_0 : decode cX9_verdictsIn 0 = .ok (.iload_n 1, 1) := by decide +kernel
theorem dX9_verdictsIn_1 : decode cX9_verdictsIn 1 = .ok (.iconst 0, 1) := by decide +kernel
theorem dX9_verdictsIn_2 : decode cX9_verdictsIn 2 = .ok (.bipush 100, 2) := by decide +kernel
theorem dX9_verdictsIn_4 : decode cX9_verdictsIn 4 = .ok (.invokestatic 110, 3) := by decide +kernel
theorem dX9_verdictsIn_7 : decode cX9_verdictsIn 7 = .ok (.aload_n 0, 1) := by decide +kernel
theorem dX9_verdictsIn_8 : decode cX9_verdictsIn 8 = .ok (.getfield 20, 3) := by decide +kernel
theorem dX9_verdictsIn_11 : decode cX9_verdictsIn 11 = .ok (.aload_n 0, 1) := by decide +kernel
theorem dX9_verdictsIn_12 : decode cX9_verdictsIn 12 = .ok (.getfield 13, 3) := by decide +kernel
theorem dX9_verdictsIn_15 : decode cX9_verdictsIn 15 = .ok (.invokevirtual 138, 3) := by decide +kernel
theorem dX9_verdictsIn_18 : decode cX9_verdictsIn 18 = .ok (.aload_n 0, 1) := by decide +kernel
theorem dX9_verdictsIn_19 : decode cX9_verdictsIn 19 = .ok (.getfield 20, 3) := by decide +kernel
theorem dX9_verdictsIn_22 : decode cX9_verdictsIn 22 = .ok (.iload_n 1, 1) := by decide +kernel
theorem dX9_verdictsIn_23 : decode cX9_verdictsIn 23 = .ok (.invokevirtual 199, 3) := by decide +kernel
theorem dX9_verdictsIn_26 : decode cX9_verdictsIn 26 = .ok (.ireturn, 1) := by decide +kernel
theorem dX9_officeCoins_0 : decode cX9_officeCoins 0 = .ok (.aload_n 0, 1) := by decide +kernel
theorem dX9_officeCoins_1 : decode cX9_officeCoins 1 = .ok (.getfield 13, 3) := by decide +kernel
theorem dX9_officeCoins_4 : decode cX9_officeCoins 4 = .ok (.getfield 366, 3) := by decide +kernel
theorem dX9_officeCoins_7 : decode cX9_officeCoins 7 = .ok (.ireturn, 1) := by decide +kernel
theorem dX9_coinError_0 : decode cX9_coinError 0 = .ok (.aload_n 0, 1) := by decide +kernel
theorem dX9_coinError_1 : decode cX9_coinError 1 = .ok (.getfield 13, 3) := by decide +kernel
theorem dX9_coinError_4 : decode cX9_coinError 4 = .ok (.getfield 369, 3) := by decide +kernel
theorem dX9_coinError_7 : decode cX9_coinError 7 = .ok (.aload_n 0, 1) := by decide +kernel
theorem dX9_coinError_8 : decode cX9_coinError 8 = .ok (.getfield 13, 3) := by decide +kernel
theorem dX9_coinError_11 : decode cX9_coinError 11 = .ok (.getfield 141, 3) := by decide +kernel
theorem dX9_coinError_14 : decode cX9_coinError 14 = .ok (.invokevirtual 372, 3) := by decide +kernel
theorem dX9_coinError_17 : decode cX9_coinError 17 = .ok (.isub, 1) := by decide +kernel
theorem dX9_coinError_18 : decode cX9_coinError 18 = .ok (.aload_n 0, 1) := by decide +kernel
theorem dX9_coinError_19 : decode cX9_coinError 19 = .ok (.getfield 13, 3) := by decide +kernel
theorem dX9_coinError_22 : decode cX9_coinError 22 = .ok (.getfield 366, 3) := by decide +kernel
theorem dX9_coinError_25 : decode cX9_coinError 25 = .ok (.isub, 1) := by decide +kernel
theorem dX9_coinError_26 : decode cX9_coinError 26 = .ok (.ireturn, 1) := by decide +kernel
theorem dX9_permittedCrossings_0 : decode cX9_permittedCrossings 0 = .ok (.aload_n 0, 1) := by decide +kernel
theorem dX9_permittedCrossings_1 : decode cX9_permittedCrossings 1 = .ok (.getfield 13, 3) := by decide +kernel
theorem dX9_permittedCrossings_4 : decode cX9_permittedCrossings 4 = .ok (.invokevirtual 376, 3) := by decide +kernel
theorem dX9_permittedCrossings_7 : decode cX9_permittedCrossings 7 = .ok (.ireturn, 1) := by decide +kernel
theorem dX9_meanReach_0 : decode cX9_meanReach 0 = .ok (.aload_n 0, 1) := by decide +kernel
theorem dX9_meanReach_1 : decode cX9_meanReach 1 = .ok (.getfield 13, 3) := by decide +kernel
theorem dX9_meanReach_4 : decode cX9_meanReach 4 = .ok (.getfield 141, 3) := by decide +kernel
theorem dX9_meanReach_7 : decode cX9_meanReach 7 = .ok (.iconst 1, 1) := by decide +kernel
theorem dX9_meanReach_8 : decode cX9_meanReach 8 = .ok (.invokevirtual 244, 3) := by decide +kernel
theorem dX9_meanReach_11 : decode cX9_meanReach 11 = .ok (.istore_n 1, 1) := by decide +kernel
theorem dX9_meanReach_12 : decode cX9_meanReach 12 = .ok (.iload_n 1, 1) := by decide +kernel
theorem dX9_meanReach_13 : decode cX9_meanReach 13 = .ok (.iconst 1, 1) := by decide +kernel
theorem dX9_meanReach_14 : decode cX9_meanReach 14 = .ok (.if_icmp .ge 5, 3) := by decide +kernel
theorem dX9_meanReach_17 : decode cX9_meanReach 17 = .ok (.dconst 0, 1) := by decide +kernel
theorem dX9_meanReach_18 : decode cX9_meanReach 18 = .ok (.dreturn, 1) := by decide +kernel
theorem dX9_meanReach_19 : decode cX9_meanReach 19 = .ok (.aload_n 0, 1) := by decide +kernel
theorem dX9_meanReach_20 : decode cX9_meanReach 20 = .ok (.getfield 13, 3) := by decide +kernel
theorem dX9_meanReach_23 : decode cX9_meanReach 23 = .ok (.invokevirtual 379, 3) := by decide +kernel
theorem dX9_meanReach_26 : decode cX9_meanReach 26 = .ok (.i2d, 1) := by decide +kernel
theorem dX9_meanReach_27 : decode cX9_meanReach 27 = .ok (.iload_n 1, 1) := by decide +kernel
theorem dX9_meanReach_28 : decode cX9_meanReach 28 = .ok (.i2d, 1) := by decide +kernel
theorem dX9_meanReach_29 : decode cX9_meanReach 29 = .ok (.ddiv, 1) := by decide +kernel
theorem dX9_meanReach_30 : decode cX9_meanReach 30 = .ok (.dreturn, 1) := by decide +kernel
theorem dX9_tangledShare_0 : decode cX9_tangledShare 0 = .ok (.aload_n 0, 1) := by decide +kernel
theorem dX9_tangledShare_1 : decode cX9_tangledShare 1 = .ok (.getfield 13, 3) := by decide +kernel
theorem dX9_tangledShare_4 : decode cX9_tangledShare 4 = .ok (.getfield 141, 3) := by decide +kernel
theorem dX9_tangledShare_7 : decode cX9_tangledShare 7 = .ok (.getfield 145, 3) := by decide +kernel
theorem dX9_tangledShare_10 : decode cX9_tangledShare 10 = .ok (.iconst 1, 1) := by decide +kernel
theorem dX9_tangledShare_11 : decode cX9_tangledShare 11 = .ok (.if_icmp .ge 5, 3) := by decide +kernel
theorem dX9_tangledShare_14 : decode cX9_tangledShare 14 = .ok (.fconst 0, 1) := by decide +kernel
theorem dX9_tangledShare_15 : decode cX9_tangledShare 15 = .ok (.freturn, 1) := by decide +kernel
theorem dX9_tangledShare_16 : decode cX9_tangledShare 16 = .ok (.aload_n 0, 1) := by decide +kernel
theorem dX9_tangledShare_17 : decode cX9_tangledShare 17 = .ok (.getfield 13, 3) := by decide +kernel
theorem dX9_tangledShare_20 : decode cX9_tangledShare 20 = .ok (.getfield 141, 3) := by decide +kernel
theorem dX9_tangledShare_23 : decode cX9_tangledShare 23 = .ok (.iconst 2, 1) := by decide +kernel
theorem dX9_tangledShare_24 : decode cX9_tangledShare 24 = .ok (.invokevirtual 244, 3) := by decide +kernel
theorem dX9_tangledShare_27 : decode cX9_tangledShare 27 = .ok (.i2f, 1) := by decide +kernel
theorem dX9_tangledShare_28 : decode cX9_tangledShare 28 = .ok (.aload_n 0, 1) := by decide +kernel
theorem dX9_tangledShare_29 : decode cX9_tangledShare 29 = .ok (.getfield 13, 3) := by decide +kernel
theorem dX9_tangledShare_32 : decode cX9_tangledShare 32 = .ok (.getfield 141, 3) := by decide +kernel
theorem dX9_tangledShare_35 : decode cX9_tangledShare 35 = .ok (.getfield 145, 3) := by decide +kernel
theorem dX9_tangledShare_38 : decode cX9_tangledShare 38 = .ok (.i2f, 1) := by decide +kernel
theorem dX9_tangledShare_39 : decode cX9_tangledShare 39 = .ok (.fdiv, 1) := by decide +kernel
theorem dX9_tangledShare_40 : decode cX9_tangledShare 40 = .ok (.freturn, 1) := by decide +kernel
theorem dX9_writePermits_0 : decode cX9_writePermits 0 = .ok (.aload_n 0, 1) := by decide +kernel
theorem dX9_writePermits_1 : decode cX9_writePermits 1 = .ok (.getfield 55, 3) := by decide +kernel
theorem dX9_writePermits_4 : decode cX9_writePermits 4 = .ok (.aload_n 0, 1) := by decide +kernel
theorem dX9_writePermits_5 : decode cX9_writePermits 5 = .ok (.getfield 13, 3) := by decide +kernel
theorem dX9_writePermits_8 : decode cX9_writePermits 8 = .ok (.getfield 206, 3) := by decide +kernel
theorem dX9_writePermits_11 : decode cX9_writePermits 11 = .ok (.invokevirtual 382, 3) := by decide +kernel
theorem dX9_writePermits_14 : decode cX9_writePermits 14 = .ok (.aload_n 0, 1) := by decide +kernel
theorem dX9_writePermits_15 : decode cX9_writePermits 15 = .ok (.getfield 55, 3) := by decide +kernel
theorem dX9_writePermits_18 : decode cX9_writePermits 18 = .ok (.getfield 386, 3) := by decide +kernel
theorem dX9_writePermits_21 : decode cX9_writePermits 21 = .ok (.ireturn, 1) := by decide +kernel
theorem dX9_outputByte_0 : decode cX9_outputByte 0 = .ok (.iload_n 1, 1) := by decide +kernel
theorem dX9_outputByte_1 : decode cX9_outputByte 1 = .ok (.ifCond .lt 14, 3) := by decide +kernel
theorem dX9_outputByte_4 : decode cX9_outputByte 4 = .ok (.iload_n 1, 1) := by decide +kernel
theorem dX9_outputByte_5 : decode cX9_outputByte 5 = .ok (.aload_n 0, 1) := by decide +kernel
theorem dX9_outputByte_6 : decode cX9_outputByte 6 = .ok (.getfield 55, 3) := by decide +kernel
theorem dX9_outputByte_9 : decode cX9_outputByte 9 = .ok (.getfield 386, 3) := by decide +kernel
theorem dX9_outputByte_12 : decode cX9_outputByte 12 = .ok (.if_icmp .lt 5, 3) := by decide +kernel
theorem dX9_outputByte_15 : decode cX9_outputByte 15 = .ok (.iconst (-1), 1) := by decide +kernel
theorem dX9_outputByte_16 : decode cX9_outputByte 16 = .ok (.ireturn, 1) := by decide +kernel
theorem dX9_outputByte_17 : decode cX9_outputByte 17 = .ok (.aload_n 0, 1) := by decide +kernel
theorem dX9_outputByte_18 : decode cX9_outputByte 18 = .ok (.getfield 55, 3) := by decide +kernel
theorem dX9_outputByte_21 : decode cX9_outputByte 21 = .ok (.getfield 387, 3) := by decide +kernel
theorem dX9_outputByte_24 : decode cX9_outputByte 24 = .ok (.iload_n 1, 1) := by decide +kernel
theorem dX9_outputByte_25 : decode cX9_outputByte 25 = .ok (.iaload, 1) := by decide +kernel
theorem dX9_outputByte_26 : decode cX9_outputByte 26 = .ok (.ireturn, 1) := by decide +kernel
theorem dX9_requireBetween_0 : decode cX9_requireBetween 0 = .ok (.iload_n 0, 1) := by decide +kernel
theorem dX9_requireBetween_1 : decode cX9_requireBetween 1 = .ok (.iload_n 1, 1) := by decide +kernel
theorem dX9_requireBetween_2 : decode cX9_requireBetween 2 = .ok (.if_icmp .lt 8, 3) := by decide +kernel
theorem dX9_requireBetween_5 : decode cX9_requireBetween 5 = .ok (.iload_n 0, 1) := by decide +kernel
theorem dX9_requireBetween_6 : decode cX9_requireBetween 6 = .ok (.iload_n 2, 1) := by decide +kernel
theorem dX9_requireBetween_7 : decode cX9_requireBetween 7 = .ok (.if_icmp .le 14, 3) := by decide +kernel
theorem dX9_requireBetween_10 : decode cX9_requireBetween 10 = .ok (.new 129, 3) := by decide +kernel
theorem dX9_requireBetween_13 : decode cX9_requireBetween 13 = .ok (.dup, 1) := by decide +kernel
theorem dX9_requireBetween_14 : decode cX9_requireBetween 14 = .ok (.ldc_w 390, 3) := by decide +kernel
theorem dX9_requireBetween_17 : decode cX9_requireBetween 17 = .ok (.invokespecial 133, 3) := by decide +kernel
theorem dX9_requireBetween_20 : decode cX9_requireBetween 20 = .ok (.athrow, 1) := by decide +kernel
theorem dX9_requireBetween_21 : decode cX9_requireBetween 21 = .ok (.return_, 1) := by decide +kernel
theorem dX9_requireHour_0 : decode cX9_requireHour 0 = .ok (.iload_n 0, 1) := by decide +kernel
theorem dX9_requireHour_1 : decode cX9_requireHour 1 = .ok (.ifCond .lt 10, 3) := by decide +kernel
theorem dX9_requireHour_4 : decode cX9_requireHour 4 = .ok (.iload_n 0, 1) := by decide +kernel
theorem dX9_requireHour_5 : decode cX9_requireHour 5 = .ok (.ldc_w 392, 3) := by decide +kernel
theorem dX9_requireHour_8 : decode cX9_requireHour 8 = .ok (.if_icmp .le 14, 3) := by decide +kernel
theorem dX9_requireHour_11 : decode cX9_requireHour 11 = .ok (.new 129, 3) := by decide +kernel
theorem dX9_requireHour_14 : decode cX9_requireHour 14 = .ok (.dup, 1) := by decide +kernel
theorem dX9_requireHour_15 : decode cX9_requireHour 15 = .ok (.ldc_w 393, 3) := by decide +kernel
theorem dX9_requireHour_18 : decode cX9_requireHour 18 = .ok (.invokespecial 133, 3) := by decide +kernel
theorem dX9_requireHour_21 : decode cX9_requireHour 21 = .ok (.athrow, 1) := by decide +kernel
theorem dX9_requireHour_22 : decode cX9_requireHour 22 = .ok (.return_, 1) := by decide +kernel
theorem dX9_requireDifferent_0 : decode cX9_requireDifferent 0 = .ok (.iload_n 0, 1) := by decide +kernel
theorem dX9_requireDifferent_1 : decode cX9_requireDifferent 1 = .ok (.iload_n 1, 1) := by decide +kernel
theorem dX9_requireDifferent_2 : decode cX9_requireDifferent 2 = .ok (.if_icmp .ne 14, 3) := by decide +kernel
theorem dX9_requireDifferent_5 : decode cX9_requireDifferent 5 = .ok (.new 129, 3) := by decide +kernel
theorem dX9_requireDifferent_8 : decode cX9_requireDifferent 8 = .ok (.dup, 1) := by decide +kernel
theorem dX9_requireDifferent_9 : decode cX9_requireDifferent 9 = .ok (.ldc_w 395, 3) := by decide +kernel
theorem dX9_requireDifferent_12 : decode cX9_requireDifferent 12 = .ok (.invokespecial 133, 3) := by decide +kernel
theorem dX9_requireDifferent_15 : decode cX9_requireDifferent 15 = .ok (.athrow, 1) := by decide +kernel
theorem dX9_requireDifferent_16 : decode cX9_requireDifferent 16 = .ok (.return_, 1) := by decide +kernel
theorem dX9_requireKite_0 : decode cX9_requireKite 0 = .ok (.aload_n 0, 1) := by decide +kernel
theorem dX9_requireKite_1 : decode cX9_requireKite 1 = .ok (.getfield 13, 3) := by decide +kernel
theorem dX9_requireKite_4 : decode cX9_requireKite 4 = .ok (.iload_n 1, 1) := by decide +kernel
theorem dX9_requireKite_5 : decode cX9_requireKite 5 = .ok (.invokevirtual 171, 3) := by decide +kernel
theorem dX9_requireKite_8 : decode cX9_requireKite 8 = .ok (.ifCond .ne 14, 3) := by decide +kernel
theorem dX9_requireKite_11 : decode cX9_requireKite 11 = .ok (.new 397, 3) := by decide +kernel
theorem dX9_requireKite_14 : decode cX9_requireKite 14 = .ok (.dup, 1) := by decide +kernel
theorem dX9_requireKite_15 : decode cX9_requireKite 15 = .ok (.ldc_w 399, 3) := by decide +kernel
theorem dX9_requireKite_18 : decode cX9_requireKite 18 = .ok (.invokespecial 401, 3) := by decide +kernel
theorem dX9_requireKite_21 : decode cX9_requireKite 21 = .ok (.athrow, 1) := by decide +kernel
theorem dX9_requireKite_22 : decode cX9_requireKite 22 = .ok (.return_, 1) := by decide +kernel
theorem dX9_requireState_0 : decode cX9_requireState 0 = .ok (.aload_n 0, 1) := by decide +kernel
theorem dX9_requireState_1 : decode cX9_requireState 1 = .ok (.getfield 13, 3) := by decide +kernel
theorem dX9_requireState_4 : decode cX9_requireState 4 = .ok (.getfield 141, 3) := by decide +kernel
theorem dX9_requireState_7 : decode cX9_requireState 7 = .ok (.getfield 177, 3) := by decide +kernel
theorem dX9_requireState_10 : decode cX9_requireState 10 = .ok (.iload_n 1, 1) := by decide +kernel
theorem dX9_requireState_11 : decode cX9_requireState 11 = .ok (.iaload, 1) := by decide +kernel
theorem dX9_requireState_12 : decode cX9_requireState 12 = .ok (.iload_n 2, 1) := by decide +kernel
theorem dX9_requireState_13 : decode cX9_requireState 13 = .ok (.if_icmp .eq 14, 3) := by decide +kernel
theorem dX9_requireState_16 : decode cX9_requireState 16 = .ok (.new 97, 3) := by decide +kernel
theorem dX9_requireState_19 : decode cX9_requireState 19 = .ok (.dup, 1) := by decide +kernel
theorem dX9_requireState_20 : decode cX9_requireState 20 = .ok (.ldc_w 402, 3) := by decide +kernel
theorem dX9_requireState_23 : decode cX9_requireState 23 = .ok (.invokespecial 101, 3) := by decide +kernel
theorem dX9_requireState_26 : decode cX9_requireState 26 = .ok (.athrow, 1) := by decide +kernel
theorem dX9_requireState_27 : decode cX9_requireState 27 = .ok (.return_, 1) := by decide +kernel
theorem dX9_requireZone_0 : decode cX9_requireZone 0 = .ok (.iload_n 1, 1) := by decide +kernel
theorem dX9_requireZone_1 : decode cX9_requireZone 1 = .ok (.ifCond .lt 17, 3) := by decide +kernel
theorem dX9_requireZone_4 : decode cX9_requireZone 4 = .ok (.iload_n 1, 1) := by decide +kernel
theorem dX9_requireZone_5 : decode cX9_requireZone 5 = .ok (.aload_n 0, 1) := by decide +kernel
theorem dX9_requireZone_6 : decode cX9_requireZone 6 = .ok (.getfield 13, 3) := by decide +kernel
theorem dX9_requireZone_9 : decode cX9_requireZone 9 = .ok (.getfield 59, 3) := by decide +kernel
theorem dX9_requireZone_12 : decode cX9_requireZone 12 = .ok (.getfield 275, 3) := by decide +kernel
theorem dX9_requireZone_15 : decode cX9_requireZone 15 = .ok (.if_icmp .lt 14, 3) := by decide +kernel
theorem dX9_requireZone_18 : decode cX9_requireZone 18 = .ok (.new 397, 3) := by decide +kernel
theorem dX9_requireZone_21 : decode cX9_requireZone 21 = .ok (.dup, 1) := by decide +kernel
theorem dX9_requireZone_22 : decode cX9_requireZone 22 = .ok (.ldc_w 404, 3) := by decide +kernel
theorem dX9_requireZone_25 : decode cX9_requireZone 25 = .ok (.invokespecial 401, 3) := by decide +kernel
theorem dX9_requireZone_28 : decode cX9_requireZone 28 = .ok (.athrow, 1) := by decide +kernel
theorem dX9_requireZone_29 : decode cX9_requireZone 29 = .ok (.return_, 1) := by decide +kernel
theorem dX9_requireColour_0 : decode cX9_requireColour 0 = .ok (.iload_n 1, 1) := by decide +kernel
theorem dX9_requireColour_1 : decode cX9_requireColour 1 = .ok (.ifCond .lt 17, 3) := by decide +kernel
theorem dX9_requireColour_4 : decode cX9_requireColour 4 = .ok (.iload_n 1, 1) := by decide +kernel
theorem dX9_requireColour_5 : decode cX9_requireColour 5 = .ok (.aload_n 0, 1) := by decide +kernel
theorem dX9_requireColour_6 : decode cX9_requireColour 6 = .ok (.getfield 13, 3) := by decide +kernel
theorem dX9_requireColour_9 : decode cX9_requireColour 9 = .ok (.getfield 59, 3) := by decide +kernel
theorem dX9_requireColour_12 : decode cX9_requireColour 12 = .ok (.getfield 293, 3) := by decide +kernel
theorem dX9_requireColour_15 : decode cX9_requireColour 15 = .ok (.if_icmp .lt 14, 3) := by decide +kernel
theorem dX9_requireColour_18 : decode cX9_requireColour 18 = .ok (.new 397, 3) := by decide +kernel
theorem dX9_requireColour_21 : decode cX9_requireColour 21 = .ok (.dup, 1) := by decide +kernel
theorem dX9_requireColour_22 : decode cX9_requireColour 22 = .ok (.ldc_w 406, 3) := by decide +kernel
theorem dX9_requireColour_25 : decode cX9_requireColour 25 = .ok (.invokespecial 401, 3) := by decide +kernel
theorem dX9_requireColour_28 : decode cX9_requireColour 28 = .ok (.athrow, 1) := by decide +kernel
theorem dX9_requireColour_29 : decode cX9_requireColour 29 = .ok (.return_, 1) := by decide +kernel
theorem dX9_requirePermit_0 : decode cX9_requirePermit 0 = .ok (.iload_n 1, 1) := by decide +kernel
theorem dX9_requirePermit_1 : decode cX9_requirePermit 1 = .ok (.ifCond .lt 17, 3) := by decide +kernel
theorem dX9_requirePermit_4 : decode cX9_requirePermit 4 = .ok (.iload_n 1, 1) := by decide +kernel
theorem dX9_requirePermit_5 : decode cX9_requirePermit 5 = .ok (.aload_n 0, 1) := by decide +kernel
theorem dX9_requirePermit_6 : decode cX9_requirePermit 6 = .ok (.getfield 13, 3) := by decide +kernel
theorem dX9_requirePermit_9 : decode cX9_requirePermit 9 = .ok (.getfield 206, 3) := by decide +kernel
theorem dX9_requirePermit_12 : decode cX9_requirePermit 12 = .ok (.getfield 252, 3) := by decide +kernel
theorem dX9_requirePermit_15 : decode cX9_requirePermit 15 = .ok (.if_icmp .lt 14, 3) := by decide +kernel
theorem dX9_requirePermit_18 : decode cX9_requirePermit 18 = .ok (.new 397, 3) := by decide +kernel
theorem dX9_requirePermit_21 : decode cX9_requirePermit 21 = .ok (.dup, 1) := by decide +kernel
theorem dX9_requirePermit_22 : decode cX9_requirePermit 22 = .ok (.ldc_w 408, 3) := by decide +kernel
theorem dX9_requirePermit_25 : decode cX9_requirePermit 25 = .ok (.invokespecial 401, 3) := by decide +kernel
theorem dX9_requirePermit_28 : decode cX9_requirePermit 28 = .ok (.athrow, 1) := by decide +kernel
theorem dX9_requirePermit_29 : decode cX9_requirePermit 29 = .ok (.return_, 1) := by decide +kernel
theorem dX9_requirePermitArguments_0 : decode cX9_requirePermitArguments 0 = .ok (.aload_n 0, 1) := by decide +kernel
theorem dX9_requirePermitArguments_1 : decode cX9_requirePermitArguments 1 = .ok (.iload_n 1, 1) := by decide +kernel
theorem dX9_requirePermitArguments_2 : decode cX9_requirePermitArguments 2 = .ok (.invokevirtual 229, 3) := by decide +kernel
theorem dX9_requirePermitArguments_5 : decode cX9_requirePermitArguments 5 = .ok (.iload_n 2, 1) := by decide +kernel
theorem dX9_requirePermitArguments_6 : decode cX9_requirePermitArguments 6 = .ok (.invokestatic 281, 3) := by decide +kernel
theorem dX9_requirePermitArguments_9 : decode cX9_requirePermitArguments 9 = .ok (.iload_n 3, 1) := by decide +kernel
theorem dX9_requirePermitArguments_10 : decode cX9_requirePermitArguments 10 = .ok (.iconst 1, 1) := by decide +kernel
theorem dX9_requirePermitArguments_11 : decode cX9_requirePermitArguments 11 = .ok (.bipush 24, 2) := by decide +kernel
theorem dX9_requirePermitArguments_13 : decode cX9_requirePermitArguments 13 = .ok (.invokestatic 110, 3) := by decide +kernel
theorem dX9_requirePermitArguments_16 : decode cX9_requirePermitArguments 16 = .ok (.return_, 1) := by decide +kernel
theorem dX10_init_0 : decode cX10_init 0 = .ok (.aload_n 0, 1) := by decide +kernel
theorem dX10_init_1 : decode cX10_init 1 = .ok (.invokespecial 1, 3) := by decide +kernel
theorem dX10_init_4 : decode cX10_init 4 = .ok (.aload_n 0, 1) := by decide +kernel
theorem dX10_init_5 : decode cX10_init 5 = .ok (.sipush 304, 3) := by decide +kernel
theorem dX10_init_8 : decode cX10_init 8 = .ok (.newarray .int, 2) := by decide +kernel
theorem dX10_init_10 : decode cX10_init 10 = .ok (.putfield 7, 3) := by decide +kernel
theorem dX10_init_13 : decode cX10_init 13 = .ok (.aload_n 0, 1) := by decide +kernel
theorem dX10_init_14 : decode cX10_init 14 = .ok (.sipush 3648, 3) := by decide +kernel
theorem dX10_init_17 : decode cX10_init 17 = .ok (.newarray .int, 2) := by decide +kernel
theorem dX10_init_19 : decode cX10_init 19 = .ok (.putfield 13, 3) := by decide +kernel
theorem dX10_init_22 : decode cX10_init 22 = .ok (.aload_n 0, 1) := by decide +kernel
theorem dX10_init_23 : decode cX10_init 23 = .ok (.iconst 2, 1) := by decide +kernel
theorem dX10_init_24 : decode cX10_init 24 = .ok (.newarray .boolean, 2) := by decide +kernel
theorem dX10_init_26 : decode cX10_init 26 = .ok (.putfield 16, 3) := by decide +kernel
theorem dX10_init_29 : decode cX10_init 29 = .ok (.aload_n 0, 1) := by decide +kernel
theorem dX10_init_30 : decode cX10_init 30 = .ok (.sipush 500, 3) := by decide +kernel
theorem dX10_init_33 : decode cX10_init 33 = .ok (.newarray .byte, 2) := by decide +kernel
theorem dX10_init_35 : decode cX10_init 35 = .ok (.putfield 20, 3) := by decide +kernel
theorem dX10_init_38 : decode cX10_init 38 = .ok (.aload_n 0, 1) := by decide +kernel
theorem dX10_init_39 : decode cX10_init 39 = .ok (.iconst (-1), 1) := by decide +kernel
theorem dX10_init_40 : decode cX10_init 40 = .ok (.putfield 24, 3) := by decide +kernel
theorem dX10_init_43 : decode cX10_init 43 = .ok (.aload_n 0, 1) := by decide +kernel
theorem dX10_init_44 : decode cX10_init 44 = .ok (.sipush 420, 3) := by decide +kernel
theorem dX10_init_47 : decode cX10_init 47 = .ok (.newarray .byte, 2) := by decide +kernel
theorem dX10_init_49 : decode cX10_init 49 = .ok (.putfield 28, 3) := by decide +kernel
theorem dX10_init_52 : decode cX10_init 52 = .ok (.aload_n 0, 1) := by decide +kernel
theorem dX10_init_53 : decode cX10_init 53 = .ok (.bipush 20, 2) := by decide +kernel
theorem dX10_init_55 : decode cX10_init 55 = .ok (.newarray .int, 2) := by decide +kernel
theorem dX10_init_57 : decode cX10_init 57 = .ok (.putfield 31, 3) := by decide +kernel
theorem dX10_init_60 : decode cX10_init 60 = .ok (.aload_n 0, 1) := by decide +kernel
theorem dX10_init_61 : decode cX10_init 61 = .ok (.bipush 60, 2) := by decide +kernel
theorem dX10_init_63 : decode cX10_init 63 = .ok (.newarray .int, 2) := by decide +kernel
theorem dX10_init_65 : decode cX10_init 65 = .ok (.putfield 34, 3) := by decide +kernel
theorem dX10_init_68 : decode cX10_init 68 = .ok (.aload_n 0, 1) := by decide +kernel
theorem dX10_init_69 : decode cX10_init 69 = .ok (.bipush 16, 2) := by decide +kernel
theorem dX10_init_71 : decode cX10_init 71 = .ok (.newarray .boolean, 2) := by decide +kernel
theorem dX10_init_73 : decode cX10_init 73 = .ok (.putfield 37, 3) := by decide +kernel
theorem dX10_init_76 : decode cX10_init 76 = .ok (.aload_n 0, 1) := by decide +kernel
theorem dX10_init_77 : decode cX10_init 77 = .ok (.invokevirtual 40, 3) := by decide +kernel
theorem dX10_init_80 : decode cX10_init 80 = .ok (.aload_n 0, 1) := by decide +kernel
theorem dX10_init_81 : decode cX10_init 81 = .ok (.bipush 40, 2) := by decide +kernel
theorem dX10_init_83 : decode cX10_init 83 = .ok (.bipush 30, 2) := by decide +kernel
theorem dX10_init_85 : decode cX10_init 85 = .ok (.iconst 2, 1) := by decide +kernel
theorem dX10_init_86 : decode cX10_init 86 = .ok (.bipush 10, 2) := by decide +kernel
theorem dX10_init_88 : decode cX10_init 88 = .ok (.invokevirtual 43, 3) := by decide +kernel
theorem dX10_init_91 : decode cX10_init 91 = .ok (.aload_n 0, 1) := by decide +kernel
theorem dX10_init_92 : decode cX10_init 92 = .ok (.invokevirtual 47, 3) := by decide +kernel
theorem dX10_init_95 : decode cX10_init 95 = .ok (.aload_n 0, 1) := by decide +kernel
theorem dX10_init_96 : decode cX10_init 96 = .ok (.iconst 2, 1) := by decide +kernel
theorem dX10_init_97 : decode cX10_init 97 = .ok (.iconst 3, 1) := by decide +kernel
theorem dX10_init_98 : decode cX10_init 98 = .ok (.invokevirtual 50, 3) := by decide +kernel
theorem dX10_init_101 : decode cX10_init 101 = .ok (.aload_n 0, 1) := by decide +kernel
theorem dX10_init_102 : decode cX10_init 102 = .ok (.iconst 0, 1) := by decide +kernel
theorem dX10_init_103 : decode cX10_init 103 = .ok (.iconst 5, 1) := by decide +kernel
theorem dX10_init_104 : decode cX10_init 104 = .ok (.invokevirtual 50, 3) := by decide +kernel
theorem dX10_init_107 : decode cX10_init 107 = .ok (.aload_n 0, 1) := by decide +kernel
theorem dX10_init_108 : decode cX10_init 108 = .ok (.invokevirtual 47, 3) := by decide +kernel
theorem dX10_init_111 : decode cX10_init 111 = .ok (.aload_n 0, 1) := by decide +kernel
theorem dX10_init_112 : decode cX10_init 112 = .ok (.bipush 6, 2) := by decide +kernel
theorem dX10_init_114 : decode cX10_init 114 = .ok (.iconst 4, 1) := by decide +kernel
theorem dX10_init_115 : decode cX10_init 115 = .ok (.invokevirtual 50, 3) := by decide +kernel
theorem dX10_init_118 : decode cX10_init 118 = .ok (.aload_n 0, 1) := by decide +kernel
theorem dX10_init_119 : decode cX10_init 119 = .ok (.iconst 2, 1) := by decide +kernel
theorem dX10_init_120 : decode cX10_init 120 = .ok (.invokevirtual 54, 3) := by decide +kernel
theorem dX10_init_123 : decode cX10_init 123 = .ok (.aload_n 0, 1) := by decide +kernel
theorem dX10_init_124 : decode cX10_init 124 = .ok (.iconst 1, 1) := by decide +kernel
theorem dX10_init_125 : decode cX10_init 125 = .ok (.invokevirtual 54, 3) := by decide +kernel
theorem dX10_init_128 : decode cX10_init 128 = .ok (.aload_n 0, 1) := by decide +kernel
theorem dX10_init_129 : decode cX10_init 129 = .ok (.iconst 5, 1) := by decide +kernel
theorem dX10_init_130 : decode cX10_init 130 = .ok (.bipush 10, 2) := by decide +kernel
theorem dX10_init_132 : decode cX10_init 132 = .ok (.bipush 10, 2) := by decide +kernel
theorem dX10_init_134 : decode cX10_init 134 = .ok (.iconst 0, 1) := by decide +kernel
theorem dX10_init_135 : decode cX10_init 135 = .ok (.iconst 0, 1) := by decide +kernel
theorem dX10_init_136 : decode cX10_init 136 = .ok (.bipush 50, 2) := by decide +kernel
theorem dX10_init_138 : decode cX10_init 138 = .ok (.invokevirtual 58, 3) := by decide +kernel
theorem dX10_init_141 : decode cX10_init 141 = .ok (.pop, 1) := by decide +kernel
theorem dX10_init_142 : decode cX10_init 142 = .ok (.aload_n 0, 1) := by decide +kernel
theorem dX10_init_143 : decode cX10_init 143 = .ok (.bipush 15, 2) := by decide +kernel
theorem dX10_init_145 : decode cX10_init 145 = .ok (.bipush 8, 2) := by decide +kernel
theorem dX10_init_147 : decode cX10_init 147 = .ok (.bipush 10, 2) := by decide +kernel
theorem dX10_init_149 : decode cX10_init 149 = .ok (.iconst 0, 1) := by decide +kernel
theorem dX10_init_150 : decode cX10_init 150 = .ok (.iconst 1, 1) := by decide +kernel
theorem dX10_init_151 : decode cX10_init 151 = .ok (.bipush 40, 2) := by decide +kernel
theorem dX10_init_153 : decode cX10_init 153 = .ok (.invokevirtual 58, 3) := by decide +kernel
theorem dX10_init_156 : decode cX10_init 156 = .ok (.pop, 1) := by decide +kernel
theorem dX10_init_157 : decode cX10_init 157 = .ok (.aload_n 0, 1) := by decide +kernel
theorem dX10_init_158 : decode cX10_init 158 = .ok (.bipush 34, 2) := by decide +kernel
theorem dX10_init_160 : decode cX10_init 160 = .ok (.bipush 10, 2) := by decide +kernel
theorem dX10_init_162 : decode cX10_init 162 = .ok (.bipush 15, 2) := by decide +kernel
theorem dX10_init_164 : decode cX10_init 164 = .ok (.iconst 1, 1) := by decide +kernel
theorem dX10_init_165 : decode cX10_init 165 = .ok (.iconst 1, 1) := by decide +kernel
theorem dX10_init_166 : decode cX10_init 166 = .ok (.bipush 30, 2) := by decide +kernel
theorem dX10_init_168 : decode cX10_init 168 = .ok (.invokevirtual 58, 3) := by decide +kernel
theorem dX10_init_171 : decode cX10_init 171 = .ok (.pop, 1) := by decide +kernel
theorem dX10_init_172 : decode cX10_init 172 = .ok (.aload_n 0, 1) := by decide +kernel
theorem dX10_init_173 : decode cX10_init 173 = .ok (.bipush 22, 2) := by decide +kernel
theorem dX10_init_175 : decode cX10_init 175 = .ok (.bipush 10, 2) := by decide +kernel
theorem dX10_init_177 : decode cX10_init 177 = .ok (.bipush 20, 2) := by decide +kernel
theorem dX10_init_179 : decode cX10_init 179 = .ok (.iconst 0, 1) := by decide +kernel
theorem dX10_init_180 : decode cX10_init 180 = .ok (.iconst 0, 1) := by decide +kernel
theorem dX10_init_181 : decode cX10_init 181 = .ok (.iconst 0, 1) := by decide +kernel
theorem dX10_init_182 : decode cX10_init 182 = .ok (.invokevirtual 58, 3) := by decide +kernel
theorem dX10_init_185 : decode cX10_init 185 = .ok (.pop, 1) := by decide +kernel
theorem dX10_init_186 : decode cX10_init 186 = .ok (.return_, 1) := by decide +kernel
theorem dX10_clear_0 : decode cX10_clear 0 = .ok (.iconst 0, 1) := by decide +kernel
theorem dX10_clear_1 : decode cX10_clear 1 = .ok (.istore_n 1, 1) := by decide +kernel
theorem dX10_clear_2 : decode cX10_clear 2 = .ok (.iload_n 1, 1) := by decide +kernel
theorem dX10_clear_3 : decode cX10_clear 3 = .ok (.sipush 304, 3) := by decide +kernel
theorem dX10_clear_6 : decode cX10_clear 6 = .ok (.if_icmp .ge 16, 3) := by decide +kernel
theorem dX10_clear_9 : decode cX10_clear 9 = .ok (.aload_n 0, 1) := by decide +kernel
theorem dX10_clear_10 : decode cX10_clear 10 = .ok (.getfield 7, 3) := by decide +kernel
theorem dX10_clear_13 : decode cX10_clear 13 = .ok (.iload_n 1, 1) := by decide +kernel
theorem dX10_clear_14 : decode cX10_clear 14 = .ok (.iconst 0, 1) := by decide +kernel
theorem dX10_clear_15 : decode cX10_clear 15 = .ok (.iastore, 1) := by decide +kernel
theorem dX10_clear_16 : decode cX10_clear 16 = .ok (.iinc 1 1, 3) := by decide +kernel
theorem dX10_clear_19 : decode cX10_clear 19 = .ok (.goto (-17), 3) := by decide +kernel
theorem dX10_clear_22 : decode cX10_clear 22 = .ok (.return_, 1) := by decide +kernel
theorem dX10_field_0 : decode cX10_field 0 = .ok (.aload_n 0, 1) := by decide +kernel
theorem dX10_field_1 : decode cX10_field 1 = .ok (.getfield 7, 3) := by decide +kernel
theorem dX10_field_4 : decode cX10_field 4 = .ok (.iconst 0, 1) := by decide +kernel
theorem dX10_field_5 : decode cX10_field 5 = .ok (.iload_n 1, 1) := by decide +kernel
theorem dX10_field_6 : decode cX10_field 6 = .ok (.iastore, 1) := by decide +kernel
theorem dX10_field_7 : decode cX10_field 7 = .ok (.aload_n 0, 1) := by decide +kernel
theorem dX10_field_8 : decode cX10_field 8 = .ok (.getfield 7, 3) := by decide +kernel
theorem dX10_field_11 : decode cX10_field 11 = .ok (.iconst 1, 1) := by decide +kernel
theorem dX10_field_12 : decode cX10_field 12 = .ok (.iload_n 2, 1) := by decide +kernel
theorem dX10_field_13 : decode cX10_field 13 = .ok (.iastore, 1) := by decide +kernel
theorem dX10_field_14 : decode cX10_field 14 = .ok (.aload_n 0, 1) := by decide +kernel
theorem dX10_field_15 : decode cX10_field 15 = .ok (.getfield 7, 3) := by decide +kernel
theorem dX10_field_18 : decode cX10_field 18 = .ok (.iconst 2, 1) := by decide +kernel
theorem dX10_field_19 : decode cX10_field 19 = .ok (.iload_n 3, 1) := by decide +kernel
theorem dX10_field_20 : decode cX10_field 20 = .ok (.iastore, 1) := by decide +kernel
theorem dX10_field_21 : decode cX10_field 21 = .ok (.aload_n 0, 1) := by decide +kernel
theorem dX10_field_22 : decode cX10_field 22 = .ok (.getfield 7, 3) := by decide +kernel
theorem dX10_field_25 : decode cX10_field 25 = .ok (.iconst 3, 1) := by decide +kernel
theorem dX10_field_26 : decode cX10_field 26 = .ok (.iload 4, 2) := by decide +kernel
theorem dX10_field_28 : decode cX10_field 28 = .ok (.iastore, 1) := by decide +kernel
theorem dX10_field_29 : decode cX10_field 29 = .ok (.return_, 1) := by decide +kernel
theorem dX10_zone_0 : decode cX10_zone 0 = .ok (.aload_n 0, 1) := by decide +kernel
theorem dX10_zone_1 : decode cX10_zone 1 = .ok (.getfield 7, 3) := by decide +kernel
theorem dX10_zone_4 : decode cX10_zone 4 = .ok (.bipush 12, 2) := by decide +kernel
theorem dX10_zone_6 : decode cX10_zone 6 = .ok (.bipush 13, 2) := by decide +kernel
theorem dX10_zone_8 : decode cX10_zone 8 = .ok (.aload_n 0, 1) := by decide +kernel
theorem dX10_zone_9 : decode cX10_zone 9 = .ok (.getfield 7, 3) := by decide +kernel
theorem dX10_zone_12 : decode cX10_zone 12 = .ok (.iconst 4, 1) := by decide +kernel
theorem dX10_zone_13 : decode cX10_zone 13 = .ok (.dup2, 1) := by decide +kernel
theorem dX10_zone_14 : decode cX10_zone 14 = .ok (.iaload, 1) := by decide +kernel
theorem dX10_zone_15 : decode cX10_zone 15 = .ok (.dup_x2, 1) := by decide +kernel
theorem dX10_zone_16 : decode cX10_zone 16 = .ok (.iconst 1, 1) := by decide +kernel
theorem dX10_zone_17 : decode cX10_zone 17 = .ok (.iadd, 1) := by decide +kernel
theorem dX10_zone_18 : decode cX10_zone 18 = .ok (.iastore, 1) := by decide +kernel
theorem dX10_zone_19 : decode cX10_zone 19 = .ok (.imul, 1) := by decide +kernel
theorem dX10_zone_20 : decode cX10_zone 20 = .ok (.iadd, 1) := by decide +kernel
theorem dX10_zone_21 : decode cX10_zone 21 = .ok (.iconst 0, 1) := by decide +kernel
theorem dX10_zone_22 : decode cX10_zone 22 = .ok (.iastore, 1) := by decide +kernel
theorem dX10_zone_23 : decode cX10_zone 23 = .ok (.return_, 1) := by decide +kernel
theorem dX10_wind_0 : decode cX10_wind 0 = .ok (.bipush 12, 2) := by decide +kernel
theorem dX10_wind_2 : decode cX10_wind 2 = .ok (.bipush 13, 2) := by decide +kernel
theorem dX10_wind_4 : decode cX10_wind 4 = .ok (.aload_n 0, 1) := by decide +kernel
theorem dX10_wind_5 : decode cX10_wind 5 = .ok (.getfield 7, 3) := by decide +kernel
theorem dX10_wind_8 : decode cX10_wind 8 = .ok (.iconst 4, 1) := by decide +kernel
theorem dX10_wind_9 : decode cX10_wind 9 = .ok (.iaload, 1) := by decide +kernel
theorem dX10_wind_10 : decode cX10_wind 10 = .ok (.iconst 1, 1) := by decide +kernel
theorem dX10_wind_11 : decode cX10_wind 11 = .ok (.isub, 1) := by decide +kernel
theorem dX10_wind_12 : decode cX10_wind 12 = .ok (.imul, 1) := by decide +kernel
theorem dX10_wind_13 : decode cX10_wind 13 = .ok (.iadd, 1) := by decide +kernel
theorem dX10_wind_14 : decode cX10_wind 14 = .ok (.istore_n 3, 1) := by decide +kernel
theorem dX10_wind_15 : decode cX10_wind 15 = .ok (.aload_n 0, 1) := by decide +kernel
theorem dX10_wind_16 : decode cX10_wind 16 = .ok (.getfield 7, 3) := by decide +kernel
theorem dX10_wind_19 : decode cX10_wind 19 = .ok (.iload_n 3, 1) := by decide +kernel
theorem dX10_wind_20 : decode cX10_wind 20 = .ok (.dup2, 1) := by decide +kernel
theorem dX10_wind_21 : decode cX10_wind 21 = .ok (.iaload, 1) := by decide +kernel
theorem dX10_wind_22 : decode cX10_wind 22 = .ok (.dup_x2, 1) := by decide +kernel
theorem dX10_wind_23 : decode cX10_wind 23 = .ok (.iconst 1, 1) := by decide +kernel
theorem dX10_wind_24 : decode cX10_wind 24 = .ok (.iadd, 1) := by decide +kernel
theorem dX10_wind_25 : decode cX10_wind 25 = .ok (.iastore, 1) := by decide +kernel
theorem dX10_wind_26 : decode cX10_wind 26 = .ok (.istore 4, 2) := by decide +kernel
theorem dX10_wind_28 : decode cX10_wind 28 = .ok (.aload_n 0, 1) := by decide +kernel
theorem dX10_wind_29 : decode cX10_wind 29 = .ok (.getfield 7, 3) := by decide +kernel
theorem dX10_wind_32 : decode cX10_wind 32 = .ok (.iload_n 3, 1) := by decide +kernel
theorem dX10_wind_33 : decode cX10_wind 33 = .ok (.iconst 1, 1) := by decide +kernel
theorem dX10_wind_34 : decode cX10_wind 34 = .ok (.iadd, 1) := by decide +kernel
theorem dX10_wind_35 : decode cX10_wind 35 = .ok (.iconst 2, 1) := by decide +kernel
theorem dX10_wind_36 : decode cX10_wind 36 = .ok (.iload 4, 2) := by decide +kernel
theorem dX10_wind_38 : decode cX10_wind 38 = .ok (.imul, 1) := by decide +kernel
theorem dX10_wind_39 : decode cX10_wind 39 = .ok (.iadd, 1) := by decide +kernel
theorem dX10_wind_40 : decode cX10_wind 40 = .ok (.iload_n 1, 1) := by decide +kernel
theorem dX10_wind_41 : decode cX10_wind 41 = .ok (.iastore, 1) := by decide +kernel
theorem dX10_wind_42 : decode cX10_wind 42 = .ok (.aload_n 0, 1) := by decide +kernel
theorem dX10_wind_43 : decode cX10_wind 43 = .ok (.getfield 7, 3) := by decide +kernel
theorem dX10_wind_46 : decode cX10_wind 46 = .ok (.iload_n 3, 1) := by decide +kernel
theorem dX10_wind_47 : decode cX10_wind 47 = .ok (.iconst 2, 1) := by decide +kernel
theorem dX10_wind_48 : decode cX10_wind 48 = .ok (.iadd, 1) := by decide +kernel
theorem dX10_wind_49 : decode cX10_wind 49 = .ok (.iconst 2, 1) := by decide +kernel
theorem dX10_wind_50 : decode cX10_wind 50 = .ok (.iload 4, 2) := by decide +kernel
theorem dX10_wind_52 : decode cX10_wind 52 = .ok (.imul, 1) := by decide +kernel
theorem dX10_wind_53 : decode cX10_wind 53 = .ok (.iadd, 1) := by decide +kernel
theorem dX10_wind_54 : decode cX10_wind 54 = .ok (.iload_n 2, 1) := by decide +kernel
theorem dX10_wind_55 : decode cX10_wind 55 = .ok (.iastore, 1) := by decide +kernel
theorem dX10_wind_56 : decode cX10_wind 56 = .ok (.return_, 1) := by decide +kernel
theorem dX10_colour_0 : decode cX10_colour 0 = .ok (.aload_n 0, 1) := by decide +kernel
theorem dX10_colour_1 : decode cX10_colour 1 = .ok (.getfield 7, 3) := by decide +kernel
theorem dX10_colour_4 : decode cX10_colour 4 = .ok (.bipush 64, 2) := by decide +kernel
theorem dX10_colour_6 : decode cX10_colour 6 = .ok (.aload_n 0, 1) := by decide +kernel
theorem dX10_colour_7 : decode cX10_colour 7 = .ok (.getfield 7, 3) := by decide +kernel
theorem dX10_colour_10 : decode cX10_colour 10 = .ok (.iconst 5, 1) := by decide +kernel
theorem dX10_colour_11 : decode cX10_colour 11 = .ok (.dup2, 1) := by decide +kernel
theorem dX10_colour_12 : decode cX10_colour 12 = .ok (.iaload, 1) := by decide +kernel
theorem dX10_colour_13 : decode cX10_colour 13 = .ok (.dup_x2, 1) := by decide +kernel
theorem dX10_colour_14 : decode cX10_colour 14 = .ok (.iconst 1, 1) := by decide +kernel
theorem dX10_colour_15 : decode cX10_colour 15 = .ok (.iadd, 1) := by decide +kernel
theorem dX10_colour_16 : decode cX10_colour 16 = .ok (.iastore, 1) := by decide +kernel
theorem dX10_colour_17 : decode cX10_colour 17 = .ok (.iadd, 1) := by decide +kernel
theorem dX10_colour_18 : decode cX10_colour 18 = .ok (.iload_n 1, 1) := by decide +kernel
theorem dX10_colour_19 : decode cX10_colour 19 = .ok (.iastore, 1) := by decide +kernel
theorem dX10_colour_20 : decode cX10_colour 20 = .ok (.return_, 1) := by decide +kernel
theorem dX10_kite_0 : decode cX10_kite 0 = .ok (.bipush 70, 2) := by decide +kernel
theorem dX10_kite_2 : decode cX10_kite 2 = .ok (.bipush 9, 2) := by decide +kernel
theorem dX10_kite_4 : decode cX10_kite 4 = .ok (.aload_n 0, 1) := by decide +kernel
theorem dX10_kite_5 : decode cX10_kite 5 = .ok (.getfield 7, 3) := by decide +kernel
theorem dX10_kite_8 : decode cX10_kite 8 = .ok (.bipush 6, 2) := by decide +kernel
theorem dX10_kite_10 : decode cX10_kite 10 = .ok (.iaload, 1) := by decide +kernel
theorem dX10_kite_11 : decode cX10_kite 11 = .ok (.imul, 1) := by decide +kernel
theorem dX10_kite_12 : decode cX10_kite 12 = .ok (.iadd, 1) := by decide +kernel
theorem dX10_kite_13 : decode cX10_kite 13 = .ok (.istore 7, 2) := by decide +kernel
theorem dX10_kite_15 : decode cX10_kite 15 = .ok (.aload_n 0, 1) := by decide +kernel
theorem dX10_kite_16 : decode cX10_kite 16 = .ok (.getfield 7, 3) := by decide +kernel
theorem dX10_kite_19 : decode cX10_kite 19 = .ok (.iload 7, 2) := by decide +kernel
theorem dX10_kite_21 : decode cX10_kite 21 = .ok (.iload_n 1, 1) := by decide +kernel
theorem dX10_kite_22 : decode cX10_kite 22 = .ok (.iastore, 1) := by decide +kernel
theorem dX10_kite_23 : decode cX10_kite 23 = .ok (.aload_n 0, 1) := by decide +kernel
theorem dX10_kite_24 : decode cX10_kite 24 = .ok (.getfield 7, 3) := by decide +kernel
theorem dX10_kite_27 : decode cX10_kite 27 = .ok (.iload 7, 2) := by decide +kernel
theorem dX10_kite_29 : decode cX10_kite 29 = .ok (.iconst 1, 1) := by decide +kernel
theorem dX10_kite_30 : decode cX10_kite 30 = .ok (.iadd, 1) := by decide +kernel
theorem dX10_kite_31 : decode cX10_kite 31 = .ok (.iload_n 2, 1) := by decide +kernel
theorem dX10_kite_32 : decode cX10_kite 32 = .ok (.iastore, 1) := by decide +kernel
theorem dX10_kite_33 : decode cX10_kite 33 = .ok (.aload_n 0, 1) := by decide +kernel
theorem dX10_kite_34 : decode cX10_kite 34 = .ok (.getfield 7, 3) := by decide +kernel
theorem dX10_kite_37 : decode cX10_kite 37 = .ok (.iload 7, 2) := by decide +kernel
theorem dX10_kite_39 : decode cX10_kite 39 = .ok (.iconst 2, 1) := by decide +kernel
theorem dX10_kite_40 : decode cX10_kite 40 = .ok (.iadd, 1) := by decide +kernel
theorem dX10_kite_41 : decode cX10_kite 41 = .ok (.iload_n 3, 1) := by decide +kernel
theorem dX10_kite_42 : decode cX10_kite 42 = .ok (.iastore, 1) := by decide +kernel
theorem dX10_kite_43 : decode cX10_kite 43 = .ok (.aload_n 0, 1) := by decide +kernel
theorem dX10_kite_44 : decode cX10_kite 44 = .ok (.getfield 7, 3) := by decide +kernel
theorem dX10_kite_47 : decode cX10_kite 47 = .ok (.iload 7, 2) := by decide +kernel
theorem dX10_kite_49 : decode cX10_kite 49 = .ok (.iconst 3, 1) := by decide +kernel
theorem dX10_kite_50 : decode cX10_kite 50 = .ok (.iadd, 1) := by decide +kernel
theorem dX10_kite_51 : decode cX10_kite 51 = .ok (.iload 4, 2) := by decide +kernel
theorem dX10_kite_53 : decode cX10_kite 53 = .ok (.iastore, 1) := by decide +kernel
theorem dX10_kite_54 : decode cX10_kite 54 = .ok (.aload_n 0, 1) := by decide +kernel
theorem dX10_kite_55 : decode cX10_kite 55 = .ok (.getfield 7, 3) := by decide +kernel
theorem dX10_kite_58 : decode cX10_kite 58 = .ok (.iload 7, 2) := by decide +kernel
theorem dX10_kite_60 : decode cX10_kite 60 = .ok (.iconst 4, 1) := by decide +kernel
theorem dX10_kite_61 : decode cX10_kite 61 = .ok (.iadd, 1) := by decide +kernel
theorem dX10_kite_62 : decode cX10_kite 62 = .ok (.iload 5, 2) := by decide +kernel
theorem dX10_kite_64 : decode cX10_kite 64 = .ok (.iastore, 1) := by decide +kernel
theorem dX10_kite_65 : decode cX10_kite 65 = .ok (.aload_n 0, 1) := by decide +kernel
theorem dX10_kite_66 : decode cX10_kite 66 = .ok (.getfield 7, 3) := by decide +kernel
theorem dX10_kite_69 : decode cX10_kite 69 = .ok (.iload 7, 2) := by decide +kernel
theorem dX10_kite_71 : decode cX10_kite 71 = .ok (.iconst 5, 1) := by decide +kernel
theorem dX10_kite_72 : decode cX10_kite 72 = .ok (.iadd, 1) := by decide +kernel
theorem dX10_kite_73 : decode cX10_kite 73 = .ok (.iload 6, 2) := by decide +kernel
theorem dX10_kite_75 : decode cX10_kite 75 = .ok (.iastore, 1) := by decide +kernel
theorem dX10_kite_76 : decode cX10_kite 76 = .ok (.aload_n 0, 1) := by decide +kernel
theorem dX10_kite_77 : decode cX10_kite 77 = .ok (.getfield 7, 3) := by decide +kernel
theorem dX10_kite_80 : decode cX10_kite 80 = .ok (.iload 7, 2) := by decide +kernel
theorem dX10_kite_82 : decode cX10_kite 82 = .ok (.bipush 6, 2) := by decide +kernel
theorem dX10_kite_84 : decode cX10_kite 84 = .ok (.iadd, 1) := by decide +kernel
theorem dX10_kite_85 : decode cX10_kite 85 = .ok (.iconst 0, 1) := by decide +kernel
theorem dX10_kite_86 : decode cX10_kite 86 = .ok (.iastore, 1) := by decide +kernel
theorem dX10_kite_87 : decode cX10_kite 87 = .ok (.aload_n 0, 1) := by decide +kernel
theorem dX10_kite_88 : decode cX10_kite 88 = .ok (.getfield 7, 3) := by decide +kernel
theorem dX10_kite_91 : decode cX10_kite 91 = .ok (.iload 7, 2) := by decide +kernel
theorem dX10_kite_93 : decode cX10_kite 93 = .ok (.bipush 7, 2) := by decide +kernel
theorem dX10_kite_95 : decode cX10_kite 95 = .ok (.iadd, 1) := by decide +kernel
theorem dX10_kite_96 : decode cX10_kite 96 = .ok (.iconst 0, 1) := by decide +kernel
theorem dX10_kite_97 : decode cX10_kite 97 = .ok (.iastore, 1) := by decide +kernel
theorem dX10_kite_98 : decode cX10_kite 98 = .ok (.aload_n 0, 1) := by decide +kernel
theorem dX10_kite_99 : decode cX10_kite 99 = .ok (.getfield 7, 3) := by decide +kernel
theorem dX10_kite_102 : decode cX10_kite 102 = .ok (.iload 7, 2) := by decide +kernel
theorem dX10_kite_104 : decode cX10_kite 104 = .ok (.bipush 8, 2) := by decide +kernel
theorem dX10_kite_106 : decode cX10_kite 106 = .ok (.iadd, 1) := by decide +kernel
theorem dX10_kite_107 : decode cX10_kite 107 = .ok (.iconst 0, 1) := by decide +kernel
theorem dX10_kite_108 : decode cX10_kite 108 = .ok (.iastore, 1) := by decide +kernel
theorem dX10_kite_109 : decode cX10_kite 109 = .ok (.aload_n 0, 1) := by decide +kernel
theorem dX10_kite_110 : decode cX10_kite 110 = .ok (.getfield 7, 3) := by decide +kernel
theorem dX10_kite_113 : decode cX10_kite 113 = .ok (.bipush 10, 2) := by decide +kernel
theorem dX10_kite_115 : decode cX10_kite 115 = .ok (.dup2, 1) := by decide +kernel
theorem dX10_kite_116 : decode cX10_kite 116 = .ok (.iaload, 1) := by decide +kernel
theorem dX10_kite_117 : decode cX10_kite 117 = .ok (.iload 6, 2) := by decide +kernel
theorem dX10_kite_119 : decode cX10_kite 119 = .ok (.iadd, 1) := by decide +kernel
theorem dX10_kite_120 : decode cX10_kite 120 = .ok (.iastore, 1) := by decide +kernel
theorem dX10_kite_121 : decode cX10_kite 121 = .ok (.aload_n 0, 1) := by decide +kernel
theorem dX10_kite_122 : decode cX10_kite 122 = .ok (.getfield 7, 3) := by decide +kernel
theorem dX10_kite_125 : decode cX10_kite 125 = .ok (.bipush 6, 2) := by decide +kernel
theorem dX10_kite_127 : decode cX10_kite 127 = .ok (.dup2, 1) := by decide +kernel
theorem dX10_kite_128 : decode cX10_kite 128 = .ok (.iaload, 1) := by decide +kernel
theorem dX10_kite_129 : decode cX10_kite 129 = .ok (.dup_x2, 1) := by decide +kernel
theorem dX10_kite_130 : decode cX10_kite 130 = .ok (.iconst 1, 1) := by decide +kernel
theorem dX10_kite_131 : decode cX10_kite 131 = .ok (.iadd, 1) := by decide +kernel
theorem dX10_kite_132 : decode cX10_kite 132 = .ok (.iastore, 1) := by decide +kernel
theorem dX10_kite_133 : decode cX10_kite 133 = .ok (.ireturn, 1) := by decide +kernel
theorem dX10_thrown_0 : decode cX10_thrown 0 = .ok (.aload_n 0, 1) := by decide +kernel
theorem dX10_thrown_1 : decode cX10_thrown 1 = .ok (.getfield 62, 3) := by decide +kernel
theorem dX10_thrown_4 : decode cX10_thrown 4 = .ok (.ireturn, 1) := by decide +kernel
theorem dX10_put_0 : decode cX10_put 0 = .ok (.iconst 0, 1) := by decide +kernel
theorem dX10_put_1 : decode cX10_put 1 = .ok (.istore_n 2, 1) := by decide +kernel
theorem dX10_put_2 : decode cX10_put 2 = .ok (.iload_n 2, 1) := by decide +kernel
theorem dX10_put_3 : decode cX10_put 3 = .ok (.sipush 304, 3) := by decide +kernel
theorem dX10_put_6 : decode cX10_put 6 = .ok (.if_icmp .ge 27, 3) := by decide +kernel
theorem dX10_put_9 : decode cX10_put 9 = .ok (.aload_n 0, 1) := by decide +kernel
theorem dX10_put_10 : decode cX10_put 10 = .ok (.getfield 13, 3) := by decide +kernel
theorem dX10_put_13 : decode cX10_put 13 = .ok (.iload_n 1, 1) := by decide +kernel
theorem dX10_put_14 : decode cX10_put 14 = .ok (.sipush 304, 3) := by decide +kernel
theorem dX10_put_17 : decode cX10_put 17 = .ok (.imul, 1) := by decide +kernel
theorem dX10_put_18 : decode cX10_put 18 = .ok (.iload_n 2, 1) := by decide +kernel
theorem dX10_put_19 : decode cX10_put 19 = .ok (.iadd, 1) := by decide +kernel
theorem dX10_put_20 : decode cX10_put 20 = .ok (.aload_n 0, 1) := by decide +kernel
theorem dX10_put_21 : decode cX10_put 21 = .ok (.getfield 7, 3) := by decide +kernel
theorem dX10_put_24 : decode cX10_put 24 = .ok (.iload_n 2, 1) := by decide +kernel
theorem dX10_put_25 : decode cX10_put 25 = .ok (.iaload, 1) := by decide +kernel
theorem dX10_put_26 : decode cX10_put 26 = .ok (.iastore, 1) := by decide +kernel
theorem dX10_put_27 : decode cX10_put 27 = .ok (.iinc 2 1, 3) := by decide +kernel
theorem dX10_put_30 : decode cX10_put 30 = .ok (.goto (-28), 3) := by decide +kernel
theorem dX10_put_33 : decode cX10_put 33 = .ok (.return_, 1) := by decide +kernel
theorem dX10_take_0 : decode cX10_take 0 = .ok (.iconst 0, 1) := by decide +kernel
theorem dX10_take_1 : decode cX10_take 1 = .ok (.istore_n 2, 1) := by decide +kernel
theorem dX10_take_2 : decode cX10_take 2 = .ok (.iload_n 2, 1) := by decide +kernel
theorem dX10_take_3 : decode cX10_take 3 = .ok (.sipush 304, 3) := by decide +kernel
theorem dX10_take_6 : decode cX10_take 6 = .ok (.if_icmp .ge 27, 3) := by decide +kernel
theorem dX10_take_9 : decode cX10_take 9 = .ok (.aload_n 0, 1) := by decide +kernel
theorem dX10_take_10 : decode cX10_take 10 = .ok (.getfield 7, 3) := by decide +kernel
theorem dX10_take_13 : decode cX10_take 13 = .ok (.iload_n 2, 1) := by decide +kernel
theorem dX10_take_14 : decode cX10_take 14 = .ok (.aload_n 0, 1) := by decide +kernel
theorem dX10_take_15 : decode cX10_take 15 = .ok (.getfield 13, 3) := by decide +kernel
theorem dX10_take_18 : decode cX10_take 18 = .ok (.iload_n 1, 1) := by decide +kernel
theorem dX10_take_19 : decode cX10_take 19 = .ok (.sipush 304, 3) := by decide +kernel
theorem dX10_take_22 : decode cX10_take 22 = .ok (.imul, 1) := by decide +kernel
theorem dX10_take_23 : decode cX10_take 23 = .ok (.iload_n 2, 1) := by decide +kernel
theorem dX10_take_24 : decode cX10_take 24 = .ok (.iadd, 1) := by decide +kernel
theorem dX10_take_25 : decode cX10_take 25 = .ok (.iaload, 1) := by decide +kernel
theorem dX10_take_26 : decode cX10_take 26 = .ok (.iastore, 1) := by decide +kernel
theorem dX10_take_27 : decode cX10_take 27 = .ok (.iinc 2 1, 3) := by decide +kernel
theorem dX10_take_30 : decode cX10_take 30 = .ok (.goto (-28), 3) := by decide +kernel
theorem dX10_take_33 : decode cX10_take 33 = .ok (.return_, 1) := by decide +kernel
theorem dX10_act_0 : decode cX10_act 0 = .ok (.aload_n 0, 1) := by decide +kernel
theorem dX10_act_1 : decode cX10_act 1 = .ok (.getfield 65, 3) := by decide +kernel
theorem dX10_act_4 : decode cX10_act 4 = .ok (.bipush 8, 2) := by decide +kernel
theorem dX10_act_6 : decode cX10_act 6 = .ok (.if_icmp .ne 26, 3) := by decide +kernel
theorem dX10_act_9 : decode cX10_act 9 = .ok (.aload_n 0, 1) := by decide +kernel
theorem dX10_act_10 : decode cX10_act 10 = .ok (.aload_n 0, 1) := by decide +kernel
theorem dX10_act_11 : decode cX10_act 11 = .ok (.getfield 68, 3) := by decide +kernel
theorem dX10_act_14 : decode cX10_act 14 = .ok (.iconst 1, 1) := by decide +kernel
theorem dX10_act_15 : decode cX10_act 15 = .ok (.iadd, 1) := by decide +kernel
theorem dX10_act_16 : decode cX10_act 16 = .ok (.bipush 8, 2) := by decide +kernel
theorem dX10_act_18 : decode cX10_act 18 = .ok (.irem, 1) := by decide +kernel
theorem dX10_act_19 : decode cX10_act 19 = .ok (.putfield 68, 3) := by decide +kernel
theorem dX10_act_22 : decode cX10_act 22 = .ok (.aload_n 0, 1) := by decide +kernel
theorem dX10_act_23 : decode cX10_act 23 = .ok (.dup, 1) := by decide +kernel
theorem dX10_act_24 : decode cX10_act 24 = .ok (.getfield 65, 3) := by decide +kernel
theorem dX10_act_27 : decode cX10_act 27 = .ok (.iconst 1, 1) := by decide +kernel
theorem dX10_act_28 : decode cX10_act 28 = .ok (.isub, 1) := by decide +kernel
theorem dX10_act_29 : decode cX10_act 29 = .ok (.putfield 65, 3) := by decide +kernel
theorem dX10_act_32 : decode cX10_act 32 = .ok (.aload_n 0, 1) := by decide +kernel
theorem dX10_act_33 : decode cX10_act 33 = .ok (.aload_n 0, 1) := by decide +kernel
theorem dX10_act_34 : decode cX10_act 34 = .ok (.getfield 68, 3) := by decide +kernel
theorem dX10_act_37 : decode cX10_act 37 = .ok (.aload_n 0, 1) := by decide +kernel
theorem dX10_act_38 : decode cX10_act 38 = .ok (.dup, 1) := by decide +kernel
theorem dX10_act_39 : decode cX10_act 39 = .ok (.getfield 65, 3) := by decide +kernel
theorem dX10_act_42 : decode cX10_act 42 = .ok (.dup_x1, 1) := by decide +kernel
theorem dX10_act_43 : decode cX10_act 43 = .ok (.iconst 1, 1) := by decide +kernel
theorem dX10_act_44 : decode cX10_act 44 = .ok (.iadd, 1) := by decide +kernel
theorem dX10_act_45 : decode cX10_act 45 = .ok (.putfield 65, 3) := by decide +kernel
theorem dX10_act_48 : decode cX10_act 48 = .ok (.iadd, 1) := by decide +kernel
theorem dX10_act_49 : decode cX10_act 49 = .ok (.bipush 8, 2) := by decide +kernel
theorem dX10_act_51 : decode cX10_act 51 = .ok (.irem, 1) := by decide +kernel
theorem dX10_act_52 : decode cX10_act 52 = .ok (.invokevirtual 71, 3) := by decide +kernel
theorem dX10_act_55 : decode cX10_act 55 = .ok (.return_, 1) := by decide +kernel
theorem dX10_fail_0 : decode cX10_fail 0 = .ok (.aload_n 0, 1) := by decide +kernel
theorem dX10_fail_1 : decode cX10_fail 1 = .ok (.iload_n 1, 1) := by decide +kernel
theorem dX10_fail_2 : decode cX10_fail 2 = .ok (.putfield 62, 3) := by decide +kernel
theorem dX10_fail_5 : decode cX10_fail 5 = .ok (.iconst 0, 1) := by decide +kernel
theorem dX10_fail_6 : decode cX10_fail 6 = .ok (.ireturn, 1) := by decide +kernel
theorem dX10_not_0 : decode cX10_not 0 = .ok (.aload_n 0, 1) := by decide +kernel
theorem dX10_not_1 : decode cX10_not 1 = .ok (.iload_n 1, 1) := by decide +kernel
theorem dX10_not_2 : decode cX10_not 2 = .ok (.putfield 62, 3) := by decide +kernel
theorem dX10_not_5 : decode cX10_not 5 = .ok (.iconst 0, 1) := by decide +kernel
theorem dX10_not_6 : decode cX10_not 6 = .ok (.ireturn, 1) := by decide +kernel
theorem dX10_in_0 : decode cX10_in 0 = .ok (.iload_n 0, 1) := by decide +kernel
theorem dX10_in_1 : decode cX10_in 1 = .ok (.iload_n 1, 1) := by decide +kernel
theorem dX10_in_2 : decode cX10_in 2 = .ok (.if_icmp .lt 12, 3) := by decide +kernel
theorem dX10_in_5 : decode cX10_in 5 = .ok (.iload_n 0, 1) := by decide +kernel
theorem dX10_in_6 : decode cX10_in 6 = .ok (.iload_n 2, 1) := by decide +kernel
theorem dX10_in_7 : decode cX10_in 7 = .ok (.if_icmp .gt 7, 3) := by decide +kernel
theorem dX10_in_10 : decode cX10_in 10 = .ok (.iconst 1, 1) := by decide +kernel
theorem dX10_in_11 : decode cX10_in 11 = .ok (.goto 4, 3) := by decide +kernel
theorem dX10_in_14 : decode cX10_in 14 = .ok (.iconst 0, 1) := by decide +kernel
theorem dX10_in_15 : decode cX10_in 15 = .ok (.ireturn, 1) := by decide +kernel
theorem dX10_less_0 : decode cX10_less 0 = .ok (.iload_n 0, 1) := by decide +kernel
theorem dX10_less_1 : decode cX10_less 1 = .ok (.iload_n 1, 1) := by decide +kernel
theorem dX10_less_2 : decode cX10_less 2 = .ok (.if_icmp .ge 7, 3) := by decide +kernel
theorem dX10_less_5 : decode cX10_less 5 = .ok (.iload_n 0, 1) := by decide +kernel
theorem dX10_less_6 : decode cX10_less 6 = .ok (.goto 4, 3) := by decide +kernel
theorem dX10_less_9 : decode cX10_less 9 = .ok (.iload_n 1, 1) := by decide +kernel
theorem dX10_less_10 : decode cX10_less 10 = .ok (.ireturn, 1) := by decide +kernel
theorem dX10_more_0 : decode cX10_more 0 = .ok (.iload_n 0, 1) := by decide +kernel
theorem dX10_more_1 : decode cX10_more 1 = .ok (.iload_n 1, 1) := by decide +kernel
theorem dX10_more_2 : decode cX10_more 2 = .ok (.if_icmp .le 7, 3) := by decide +kernel
theorem dX10_more_5 : decode cX10_more 5 = .ok (.iload_n 0, 1) := by decide +kernel
theorem dX10_more_6 : decode cX10_more 6 = .ok (.goto 4, 3) := by decide +kernel
theorem dX10_more_9 : decode cX10_more 9 = .ok (.iload_n 1, 1) := by decide +kernel
theorem dX10_more_10 : decode cX10_more 10 = .ok (.ireturn, 1) := by decide +kernel
theorem dX10_isHour_0 : decode cX10_isHour 0 = .ok (.iload_n 0, 1) := by decide +kernel
theorem dX10_isHour_1 : decode cX10_isHour 1 = .ok (.iconst 0, 1) := by decide +kernel
theorem dX10_isHour_2 : decode cX10_isHour 2 = .ok (.ldc 74, 2) := by decide +kernel
theorem dX10_isHour_4 : decode cX10_isHour 4 = .ok (.invokestatic 75, 3) := by decide +kernel
theorem dX10_isHour_7 : decode cX10_isHour 7 = .ok (.ireturn, 1) := by decide +kernel
theorem dX10_isZ_0 : decode cX10_isZ 0 = .ok (.iload_n 1, 1) := by decide +kernel
theorem dX10_isZ_1 : decode cX10_isZ 1 = .ok (.iconst 0, 1) := by decide +kernel
theorem dX10_isZ_2 : decode cX10_isZ 2 = .ok (.aload_n 0, 1) := by decide +kernel
theorem dX10_isZ_3 : decode cX10_isZ 3 = .ok (.getfield 7, 3) := by decide +kernel
theorem dX10_isZ_6 : decode cX10_isZ 6 = .ok (.iconst 4, 1) := by decide +kernel
theorem dX10_isZ_7 : decode cX10_isZ 7 = .ok (.iaload, 1) := by decide +kernel
theorem dX10_isZ_8 : decode cX10_isZ 8 = .ok (.iconst 1, 1) := by decide +kernel
theorem dX10_isZ_9 : decode cX10_isZ 9 = .ok (.isub, 1) := by decide +kernel
theorem dX10_isZ_10 : decode cX10_isZ 10 = .ok (.invokestatic 75, 3) := by decide +kernel
theorem dX10_isZ_13 : decode cX10_isZ 13 = .ok (.ireturn, 1) := by decide +kernel
theorem dX10_isC_0 : decode cX10_isC 0 = .ok (.iload_n 1, 1) := by decide +kernel
theorem dX10_isC_1 : decode cX10_isC 1 = .ok (.iconst 0, 1) := by decide +kernel
theorem dX10_isC_2 : decode cX10_isC 2 = .ok (.aload_n 0, 1) := by decide +kernel
theorem dX10_isC_3 : decode cX10_isC 3 = .ok (.getfield 7, 3) := by decide +kernel
theorem dX10_isC_6 : decode cX10_isC 6 = .ok (.iconst 5, 1) := by decide +kernel
theorem dX10_isC_7 : decode cX10_isC 7 = .ok (.iaload, 1) := by decide +kernel
theorem dX10_isC_8 : decode cX10_isC 8 = .ok (.iconst 1, 1) := by decide +kernel
theorem dX10_isC_9 : decode cX10_isC 9 = .ok (.isub, 1) := by decide +kernel
theorem dX10_isC_10 : decode cX10_isC 10 = .ok (.invokestatic 75, 3) := by decide +kernel
theorem dX10_isC_13 : decode cX10_isC 13 = .ok (.ireturn, 1) := by decide +kernel
theorem dX10_isK_0 : decode cX10_isK 0 = .ok (.iload_n 1, 1) := by decide +kernel
theorem dX10_isK_1 : decode cX10_isK 1 = .ok (.iconst 0, 1) := by decide +kernel
theorem dX10_isK_2 : decode cX10_isK 2 = .ok (.aload_n 0, 1) := by decide +kernel
theorem dX10_isK_3 : decode cX10_isK 3 = .ok (.getfield 7, 3) := by decide +kernel
theorem dX10_isK_6 : decode cX10_isK 6 = .ok (.bipush 6, 2) := by decide +kernel
theorem dX10_isK_8 : decode cX10_isK 8 = .ok (.iaload, 1) := by decide +kernel
theorem dX10_isK_9 : decode cX10_isK 9 = .ok (.iconst 1, 1) := by decide +kernel
theorem dX10_isK_10 : decode cX10_isK 10 = .ok (.isub, 1) := by decide +kernel
theorem dX10_isK_11 : decode cX10_isK 11 = .ok (.invokestatic 75, 3) := by decide +kernel
theorem dX10_isK_14 : decode cX10_isK 14 = .ok (.ireturn, 1) := by decide +kernel
theorem dX10_isP_0 : decode cX10_isP 0 = .ok (.iload_n 1, 1) := by decide +kernel
theorem dX10_isP_1 : decode cX10_isP 1 = .ok (.iconst 0, 1) := by decide +kernel
theorem dX10_isP_2 : decode cX10_isP 2 = .ok (.aload_n 0, 1) := by decide +kernel
theorem dX10_isP_3 : decode cX10_isP 3 = .ok (.getfield 7, 3) := by decide +kernel
theorem dX10_isP_6 : decode cX10_isP 6 = .ok (.bipush 11, 2) := by decide +kernel
theorem dX10_isP_8 : decode cX10_isP 8 = .ok (.iaload, 1) := by decide +kernel
theorem dX10_isP_9 : decode cX10_isP 9 = .ok (.iconst 1, 1) := by decide +kernel
theorem dX10_isP_10 : decode cX10_isP 10 = .ok (.isub, 1) := by decide +kernel
theorem dX10_isP_11 : decode cX10_isP 11 = .ok (.invokestatic 75, 3) := by decide +kernel
theorem dX10_isP_14 : decode cX10_isP 14 = .ok (.ireturn, 1) := by decide +kernel
theorem dX10_of_0 : decode cX10_of 0 = .ok (.aload_n 0, 1) := by decide +kernel
theorem dX10_of_1 : decode cX10_of 1 = .ok (.getfield 7, 3) := by decide +kernel
theorem dX10_of_4 : decode cX10_of 4 = .ok (.bipush 70, 2) := by decide +kernel
theorem dX10_of_6 : decode cX10_of 6 = .ok (.bipush 9, 2) := by decide +kernel
theorem dX10_of_8 : decode cX10_of 8 = .ok (.iload_n 1, 1) := by decide +kernel
theorem dX10_of_9 : decode cX10_of 9 = .ok (.imul, 1) := by decide +kernel
theorem dX10_of_10 : decode cX10_of 10 = .ok (.iadd, 1) := by decide +kernel
theorem dX10_of_11 : decode cX10_of 11 = .ok (.iload_n 2, 1) := by decide +kernel
theorem dX10_of_12 : decode cX10_of 12 = .ok (.iadd, 1) := by decide +kernel
theorem dX10_of_13 : decode cX10_of 13 = .ok (.iaload, 1) := by decide +kernel
theorem dX10_of_14 : decode cX10_of 14 = .ok (.ireturn, 1) := by decide +kernel
theorem dX10_zoneAt_0 : decode cX10_zoneAt 0 = .ok (.aload_n 0, 1) := by decide +kernel
theorem dX10_zoneAt_1 : decode cX10_zoneAt 1 = .ok (.iload_n 1, 1) := by decide +kernel
theorem dX10_zoneAt_2 : decode cX10_zoneAt 2 = .ok (.iconst 0, 1) := by decide +kernel
theorem dX10_zoneAt_3 : decode cX10_zoneAt 3 = .ok (.invokevirtual 79, 3) := by decide +kernel
theorem dX10_zoneAt_6 : decode cX10_zoneAt 6 = .ok (.aload_n 0, 1) := by decide +kernel
theorem dX10_zoneAt_7 : decode cX10_zoneAt 7 = .ok (.getfield 7, 3) := by decide +kernel
theorem dX10_zoneAt_10 : decode cX10_zoneAt 10 = .ok (.iconst 4, 1) := by decide +kernel
theorem dX10_zoneAt_11 : decode cX10_zoneAt 11 = .ok (.iaload, 1) := by decide +kernel
theorem dX10_zoneAt_12 : decode cX10_zoneAt 12 = .ok (.imul, 1) := by decide +kernel
theorem dX10_zoneAt_13 : decode cX10_zoneAt 13 = .ok (.aload_n 0, 1) := by decide +kernel
theorem dX10_zoneAt_14 : decode cX10_zoneAt 14 = .ok (.getfield 7, 3) := by decide +kernel
theorem dX10_zoneAt_17 : decode cX10_zoneAt 17 = .ok (.iconst 0, 1) := by decide +kernel
theorem dX10_zoneAt_18 : decode cX10_zoneAt 18 = .ok (.iaload, 1) := by decide +kernel
theorem dX10_zoneAt_19 : decode cX10_zoneAt 19 = .ok (.idiv, 1) := by decide +kernel
theorem dX10_zoneAt_20 : decode cX10_zoneAt 20 = .ok (.ireturn, 1) := by decide +kernel
theorem dX10_direction_0 : decode cX10_direction 0 = .ok (.aload_n 0, 1) := by decide +kernel
theorem dX10_direction_1 : decode cX10_direction 1 = .ok (.getfield 7, 3) := by decide +kernel
theorem dX10_direction_4 : decode cX10_direction 4 = .ok (.bipush 12, 2) := by decide +kernel
theorem dX10_direction_6 : decode cX10_direction 6 = .ok (.bipush 13, 2) := by decide +kernel
theorem dX10_direction_8 : decode cX10_direction 8 = .ok (.iload_n 1, 1) := by decide +kernel
theorem dX10_direction_9 : decode cX10_direction 9 = .ok (.imul, 1) := by decide +kernel
theorem dX10_direction_10 : decode cX10_direction 10 = .ok (.iadd, 1) := by decide +kernel
theorem dX10_direction_11 : decode cX10_direction 11 = .ok (.iconst 1, 1) := by decide +kernel
theorem dX10_direction_12 : decode cX10_direction 12 = .ok (.iadd, 1) := by decide +kernel
theorem dX10_direction_13 : decode cX10_direction 13 = .ok (.iconst 2, 1) := by decide +kernel
theorem dX10_direction_14 : decode cX10_direction 14 = .ok (.iload_n 2, 1) := by decide +kernel
theorem dX10_direction_15 : decode cX10_direction 15 = .ok (.aload_n 0, 1) := by decide +kernel
theorem dX10_direction_16 : decode cX10_direction 16 = .ok (.getfield 7, 3) := by decide +kernel
theorem dX10_direction_19 : decode cX10_direction 19 = .ok (.bipush 12, 2) := by decide +kernel
theorem dX10_direction_21 : decode cX10_direction 21 = .ok (.bipush 13, 2) := by decide +kernel
theorem dX10_direction_23 : decode cX10_direction 23 = .ok (.iload_n 1, 1) := by decide +kernel
theorem dX10_direction_24 : decode cX10_direction 24 = .ok (.imul, 1) := by decide +kernel
theorem dX10_direction_25 : decode cX10_direction 25 = .ok (.iadd, 1) := by decide +kernel
theorem dX10_direction_26 : decode cX10_direction 26 = .ok (.iaload, 1) := by decide +kernel
theorem dX10_direction_27 : decode cX10_direction 27 = .ok (.irem, 1) := by decide +kernel
theorem dX10_direction_28 : decode cX10_direction 28 = .ok (.imul, 1) := by decide +kernel
theorem dX10_direction_29 : decode cX10_direction 29 = .ok (.iadd, 1) := by decide +kernel
theorem dX10_direction_30 : decode cX10_direction 30 = .ok (.iaload, 1) := by decide +kernel
theorem dX10_direction_31 : decode cX10_direction 31 = .ok (.ireturn, 1) := by decide +kernel
theorem dX10_force_0 : decode cX10_force 0 = .ok (.aload_n 0, 1) := by decide +kernel
theorem dX10_force_1 : decode cX10_force 1 = .ok (.getfield 7, 3) := by decide +kernel
theorem dX10_force_4 : decode cX10_force 4 = .ok (.bipush 12, 2) := by decide +kernel
theorem dX10_force_6 : decode cX10_force 6 = .ok (.bipush 13, 2) := by decide +kernel
theorem dX10_force_8 : decode cX10_force 8 = .ok (.iload_n 1, 1) := by decide +kernel
theorem dX10_force_9 : decode cX10_force 9 = .ok (.imul, 1) := by decide +kernel
theorem dX10_force_10 : decode cX10_force 10 = .ok (.iadd, 1) := by decide +kernel
theorem dX10_force_11 : decode cX10_force 11 = .ok (.iconst 2, 1) := by decide +kernel
theorem dX10_force_12 : decode cX10_force 12 = .ok (.iadd, 1) := by decide +kernel
theorem dX10_force_13 : decode cX10_force 13 = .ok (.iconst 2, 1) := by decide +kernel
theorem dX10_force_14 : decode cX10_force 14 = .ok (.iload_n 2, 1) := by decide +kernel
theorem dX10_force_15 : decode cX10_force 15 = .ok (.aload_n 0, 1) := by decide +kernel
theorem dX10_force_16 : decode cX10_force 16 = .ok (.getfield 7, 3) := by decide +kernel
theorem dX10_force_19 : decode cX10_force 19 = .ok (.bipush 12, 2) := by decide +kernel
theorem dX10_force_21 : decode cX10_force 21 = .ok (.bipush 13, 2) := by decide +kernel
theorem dX10_force_23 : decode cX10_force 23 = .ok (.iload_n 1, 1) := by decide +kernel
theorem dX10_force_24 : decode cX10_force 24 = .ok (.imul, 1) := by decide +kernel
theorem dX10_force_25 : decode cX10_force 25 = .ok (.iadd, 1) := by decide +kernel
theorem dX10_force_26 : decode cX10_force 26 = .ok (.iaload, 1) := by decide +kernel
theorem dX10_force_27 : decode cX10_force 27 = .ok (.irem, 1) := by decide +kernel
theorem dX10_force_28 : decode cX10_force 28 = .ok (.imul, 1) := by decide +kernel
theorem dX10_force_29 : decode cX10_force 29 = .ok (.iadd, 1) := by decide +kernel
theorem dX10_force_30 : decode cX10_force 30 = .ok (.iaload, 1) := by decide +kernel
theorem dX10_force_31 : decode cX10_force 31 = .ok (.ireturn, 1) := by decide +kernel
theorem dX10_dx_0 : decode cX10_dx 0 = .ok (.iload_n 0, 1) := by decide +kernel
theorem dX10_dx_1 : decode cX10_dx 1 = .ok (.ifCond .eq 8, 3) := by decide +kernel
theorem dX10_dx_4 : decode cX10_dx 4 = .ok (.iload_n 0, 1) := by decide +kernel
theorem dX10_dx_5 : decode cX10_dx 5 = .ok (.iconst 4, 1) := by decide +kernel
theorem dX10_dx_6 : decode cX10_dx 6 = .ok (.if_icmp .ne 7, 3) := by decide +kernel
theorem dX10_dx_9 : decode cX10_dx 9 = .ok (.iconst 0, 1) := by decide +kernel
theorem dX10_dx_10 : decode cX10_dx 10 = .ok (.goto 13, 3) := by decide +kernel
theorem dX10_dx_13 : decode cX10_dx 13 = .ok (.iload_n 0, 1) := by decide +kernel
theorem dX10_dx_14 : decode cX10_dx 14 = .ok (.iconst 4, 1) := by decide +kernel
theorem dX10_dx_15 : decode cX10_dx 15 = .ok (.if_icmp .ge 7, 3) := by decide +kernel
theorem dX10_dx_18 : decode cX10_dx 18 = .ok (.iconst 1, 1) := by decide +kernel
theorem dX10_dx_19 : decode cX10_dx 19 = .ok (.goto 4, 3) := by decide +kernel
theorem dX10_dx_22 : decode cX10_dx 22 = .ok (.iconst (-1), 1) := by decide +kernel
theorem dX10_dx_23 : decode cX10_dx 23 = .ok (.ireturn, 1) := by decide +kernel
theorem dX10_dy_0 : decode cX10_dy 0 = .ok (.iload_n 0, 1) := by decide +kernel
theorem dX10_dy_1 : decode cX10_dy 1 = .ok (.iconst 2, 1) := by decide +kernel
theorem dX10_dy_2 : decode cX10_dy 2 = .ok (.if_icmp .eq 9, 3) := by decide +kernel
theorem dX10_dy_5 : decode cX10_dy 5 = .ok (.iload_n 0, 1) := by decide +kernel
theorem dX10_dy_6 : decode cX10_dy 6 = .ok (.bipush 6, 2) := by decide +kernel
theorem dX10_dy_8 : decode cX10_dy 8 = .ok (.if_icmp .ne 7, 3) := by decide +kernel
theorem dX10_dy_11 : decode cX10_dy 11 = .ok (.iconst 0, 1) := by decide +kernel
theorem dX10_dy_12 : decode cX10_dy 12 = .ok (.goto 19, 3) := by decide +kernel
theorem dX10_dy_15 : decode cX10_dy 15 = .ok (.iload_n 0, 1) := by decide +kernel
theorem dX10_dy_16 : decode cX10_dy 16 = .ok (.iconst 2, 1) := by decide +kernel
theorem dX10_dy_17 : decode cX10_dy 17 = .ok (.if_icmp .lt 9, 3) := by decide +kernel
theorem dX10_dy_20 : decode cX10_dy 20 = .ok (.iload_n 0, 1) := by decide +kernel
theorem dX10_dy_21 : decode cX10_dy 21 = .ok (.bipush 7, 2) := by decide +kernel
theorem dX10_dy_23 : decode cX10_dy 23 = .ok (.if_icmp .ne 7, 3) := by decide +kernel
theorem dX10_dy_26 : decode cX10_dy 26 = .ok (.iconst 1, 1) := by decide +kernel
theorem dX10_dy_27 : decode cX10_dy 27 = .ok (.goto 4, 3) := by decide +kernel
theorem dX10_dy_30 : decode cX10_dy 30 = .ok (.iconst (-1), 1) := by decide +kernel
theorem dX10_dy_31 : decode cX10_dy 31 = .ok (.ireturn, 1) := by decide +kernel
theorem dX10_reachWith_0 : decode cX10_reachWith 0 = .ok (.aload_n 0, 1) := by decide +kernel
theorem dX10_reachWith_1 : decode cX10_reachWith 1 = .ok (.aload_n 0, 1) := by decide +kernel
theorem dX10_reachWith_2 : decode cX10_reachWith 2 = .ok (.iload_n 1, 1) := by decide +kernel
theorem dX10_reachWith_3 : decode cX10_reachWith 3 = .ok (.invokevirtual 83, 3) := by decide +kernel
theorem dX10_reachWith_6 : decode cX10_reachWith 6 = .ok (.iload_n 3, 1) := by decide +kernel
theorem dX10_reachWith_7 : decode cX10_reachWith 7 = .ok (.invokevirtual 87, 3) := by decide +kernel
theorem dX10_reachWith_10 : decode cX10_reachWith 10 = .ok (.iload_n 2, 1) := by decide +kernel
theorem dX10_reachWith_11 : decode cX10_reachWith 11 = .ok (.isub, 1) := by decide +kernel
theorem dX10_reachWith_12 : decode cX10_reachWith 12 = .ok (.istore 4, 2) := by decide +kernel
theorem dX10_reachWith_14 : decode cX10_reachWith 14 = .ok (.iload 4, 2) := by decide +kernel
theorem dX10_reachWith_16 : decode cX10_reachWith 16 = .ok (.iconst 1, 1) := by decide +kernel
theorem dX10_reachWith_17 : decode cX10_reachWith 17 = .ok (.if_icmp .ge 7, 3) := by decide +kernel
theorem dX10_reachWith_20 : decode cX10_reachWith 20 = .ok (.iconst 0, 1) := by decide +kernel
theorem dX10_reachWith_21 : decode cX10_reachWith 21 = .ok (.goto 18, 3) := by decide +kernel
theorem dX10_reachWith_24 : decode cX10_reachWith 24 = .ok (.aload_n 0, 1) := by decide +kernel
theorem dX10_reachWith_25 : decode cX10_reachWith 25 = .ok (.iload_n 1, 1) := by decide +kernel
theorem dX10_reachWith_26 : decode cX10_reachWith 26 = .ok (.iconst 2, 1) := by decide +kernel
theorem dX10_reachWith_27 : decode cX10_reachWith 27 = .ok (.invokevirtual 79, 3) := by decide +kernel
theorem dX10_reachWith_30 : decode cX10_reachWith 30 = .ok (.iload 4, 2) := by decide +kernel
theorem dX10_reachWith_32 : decode cX10_reachWith 32 = .ok (.iconst 5, 1) := by decide +kernel
theorem dX10_reachWith_33 : decode cX10_reachWith 33 = .ok (.invokestatic 90, 3) := by decide +kernel
theorem dX10_reachWith_36 : decode cX10_reachWith 36 = .ok (.imul, 1) := by decide +kernel
theorem dX10_reachWith_37 : decode cX10_reachWith 37 = .ok (.iconst 5, 1) := by decide +kernel
theorem dX10_reachWith_38 : decode cX10_reachWith 38 = .ok (.idiv, 1) := by decide +kernel
theorem dX10_reachWith_39 : decode cX10_reachWith 39 = .ok (.ireturn, 1) := by decide +kernel
theorem dX10_reachOf_0 : decode cX10_reachOf 0 = .ok (.aload_n 0, 1) := by decide +kernel
theorem dX10_reachOf_1 : decode cX10_reachOf 1 = .ok (.iload_n 1, 1) := by decide +kernel
theorem dX10_reachOf_2 : decode cX10_reachOf 2 = .ok (.aload_n 0, 1) := by decide +kernel
theorem dX10_reachOf_3 : decode cX10_reachOf 3 = .ok (.iload_n 1, 1) := by decide +kernel
theorem dX10_reachOf_4 : decode cX10_reachOf 4 = .ok (.iconst 4, 1) := by decide +kernel
theorem dX10_reachOf_5 : decode cX10_reachOf 5 = .ok (.invokevirtual 79, 3) := by decide +kernel
theorem dX10_reachOf_8 : decode cX10_reachOf 8 = .ok (.iload_n 2, 1) := by decide +kernel
theorem dX10_reachOf_9 : decode cX10_reachOf 9 = .ok (.invokevirtual 93, 3) := by decide +kernel
theorem dX10_reachOf_12 : decode cX10_reachOf 12 = .ok (.ireturn, 1) := by decide +kernel
theorem dX10_xAfter_0 : decode cX10_xAfter 0 = .ok (.aload_n 0, 1) := by decide +kernel
theorem dX10_xAfter_1 : decode cX10_xAfter 1 = .ok (.iload_n 1, 1) := by decide +kernel
theorem dX10_xAfter_2 : decode cX10_xAfter 2 = .ok (.iconst 0, 1) := by decide +kernel
theorem dX10_xAfter_3 : decode cX10_xAfter 3 = .ok (.invokevirtual 79, 3) := by decide +kernel
theorem dX10_xAfter_6 : decode cX10_xAfter 6 = .ok (.iload_n 2, 1) := by decide +kernel
theorem dX10_xAfter_7 : decode cX10_xAfter 7 = .ok (.aload_n 0, 1) := by decide +kernel
theorem dX10_xAfter_8 : decode cX10_xAfter 8 = .ok (.aload_n 0, 1) := by decide +kernel
theorem dX10_xAfter_9 : decode cX10_xAfter 9 = .ok (.iload_n 1, 1) := by decide +kernel
theorem dX10_xAfter_10 : decode cX10_xAfter 10 = .ok (.invokevirtual 83, 3) := by decide +kernel
theorem dX10_xAfter_13 : decode cX10_xAfter 13 = .ok (.iload_n 3, 1) := by decide +kernel
theorem dX10_xAfter_14 : decode cX10_xAfter 14 = .ok (.invokevirtual 97, 3) := by decide +kernel
theorem dX10_xAfter_17 : decode cX10_xAfter 17 = .ok (.invokestatic 100, 3) := by decide +kernel
theorem dX10_xAfter_20 : decode cX10_xAfter 20 = .ok (.imul, 1) := by decide +kernel
theorem dX10_xAfter_21 : decode cX10_xAfter 21 = .ok (.iadd, 1) := by decide +kernel
theorem dX10_xAfter_22 : decode cX10_xAfter 22 = .ok (.ireturn, 1) := by decide +kernel
theorem dX10_yAfter_0 : decode cX10_yAfter 0 = .ok (.aload_n 0, 1) := by decide +kernel
theorem dX10_yAfter_1 : decode cX10_yAfter 1 = .ok (.iload_n 1, 1) := by decide +kernel
theorem dX10_yAfter_2 : decode cX10_yAfter 2 = .ok (.iconst 1, 1) := by decide +kernel
theorem dX10_yAfter_3 : decode cX10_yAfter 3 = .ok (.invokevirtual 79, 3) := by decide +kernel
theorem dX10_yAfter_6 : decode cX10_yAfter 6 = .ok (.iload_n 2, 1) := by decide +kernel
theorem dX10_yAfter_7 : decode cX10_yAfter 7 = .ok (.aload_n 0, 1) := by decide +kernel
theorem dX10_yAfter_8 : decode cX10_yAfter 8 = .ok (.aload_n 0, 1) := by decide +kernel
theorem dX10_yAfter_9 : decode cX10_yAfter 9 = .ok (.iload_n 1, 1) := by decide +kernel
theorem dX10_yAfter_10 : decode cX10_yAfter 10 = .ok (.invokevirtual 83, 3) := by decide +kernel
theorem dX10_yAfter_13 : decode cX10_yAfter 13 = .ok (.iload_n 3, 1) := by decide +kernel
theorem dX10_yAfter_14 : decode cX10_yAfter 14 = .ok (.invokevirtual 97, 3) := by decide +kernel
theorem dX10_yAfter_17 : decode cX10_yAfter 17 = .ok (.invokestatic 103, 3) := by decide +kernel
theorem dX10_yAfter_20 : decode cX10_yAfter 20 = .ok (.imul, 1) := by decide +kernel
theorem dX10_yAfter_21 : decode cX10_yAfter 21 = .ok (.iadd, 1) := by decide +kernel
theorem dX10_yAfter_22 : decode cX10_yAfter 22 = .ok (.ireturn, 1) := by decide +kernel
theorem dX10_xEnd_0 : decode cX10_xEnd 0 = .ok (.aload_n 0, 1) := by decide +kernel
theorem dX10_xEnd_1 : decode cX10_xEnd 1 = .ok (.iload_n 1, 1) := by decide +kernel
theorem dX10_xEnd_2 : decode cX10_xEnd 2 = .ok (.aload_n 0, 1) := by decide +kernel
theorem dX10_xEnd_3 : decode cX10_xEnd 3 = .ok (.iload_n 1, 1) := by decide +kernel
theorem dX10_xEnd_4 : decode cX10_xEnd 4 = .ok (.iload_n 2, 1) := by decide +kernel
theorem dX10_xEnd_5 : decode cX10_xEnd 5 = .ok (.invokevirtual 106, 3) := by decide +kernel
theorem dX10_xEnd_8 : decode cX10_xEnd 8 = .ok (.iload_n 2, 1) := by decide +kernel
theorem dX10_xEnd_9 : decode cX10_xEnd 9 = .ok (.invokevirtual 109, 3) := by decide +kernel
theorem dX10_xEnd_12 : decode cX10_xEnd 12 = .ok (.ireturn, 1) := by decide +kernel
theorem dX10_yEnd_0 : decode cX10_yEnd 0 = .ok (.aload_n 0, 1) := by decide +kernel
theorem dX10_yEnd_1 : decode cX10_yEnd 1 = .ok (.iload_n 1, 1) := by decide +kernel
theorem dX10_yEnd_2 : decode cX10_yEnd 2 = .ok (.aload_n 0, 1) := by decide +kernel
theorem dX10_yEnd_3 : decode cX10_yEnd 3 = .ok (.iload_n 1, 1) := by decide +kernel
theorem dX10_yEnd_4 : decode cX10_yEnd 4 = .ok (.iload_n 2, 1) := by decide +kernel
theorem dX10_yEnd_5 : decode cX10_yEnd 5 = .ok (.invokevirtual 106, 3) := by decide +kernel
theorem dX10_yEnd_8 : decode cX10_yEnd 8 = .ok (.iload_n 2, 1) := by decide +kernel
theorem dX10_yEnd_9 : decode cX10_yEnd 9 = .ok (.invokevirtual 112, 3) := by decide +kernel
theorem dX10_yEnd_12 : decode cX10_yEnd 12 = .ok (.ireturn, 1) := by decide +kernel
theorem dX10_fliesWith_0 : decode cX10_fliesWith 0 = .ok (.aload_n 0, 1) := by decide +kernel
theorem dX10_fliesWith_1 : decode cX10_fliesWith 1 = .ok (.iload_n 1, 1) := by decide +kernel
theorem dX10_fliesWith_2 : decode cX10_fliesWith 2 = .ok (.iload_n 2, 1) := by decide +kernel
theorem dX10_fliesWith_3 : decode cX10_fliesWith 3 = .ok (.iload_n 3, 1) := by decide +kernel
theorem dX10_fliesWith_4 : decode cX10_fliesWith 4 = .ok (.invokevirtual 93, 3) := by decide +kernel
theorem dX10_fliesWith_7 : decode cX10_fliesWith 7 = .ok (.istore 4, 2) := by decide +kernel
theorem dX10_fliesWith_9 : decode cX10_fliesWith 9 = .ok (.iload 4, 2) := by decide +kernel
theorem dX10_fliesWith_11 : decode cX10_fliesWith 11 = .ok (.iconst 1, 1) := by decide +kernel
theorem dX10_fliesWith_12 : decode cX10_fliesWith 12 = .ok (.if_icmp .lt 53, 3) := by decide +kernel
theorem dX10_fliesWith_15 : decode cX10_fliesWith 15 = .ok (.aload_n 0, 1) := by decide +kernel
theorem dX10_fliesWith_16 : decode cX10_fliesWith 16 = .ok (.iload_n 1, 1) := by decide +kernel
theorem dX10_fliesWith_17 : decode cX10_fliesWith 17 = .ok (.iload 4, 2) := by decide +kernel
theorem dX10_fliesWith_19 : decode cX10_fliesWith 19 = .ok (.iload_n 3, 1) := by decide +kernel
theorem dX10_fliesWith_20 : decode cX10_fliesWith 20 = .ok (.invokevirtual 109, 3) := by decide +kernel
theorem dX10_fliesWith_23 : decode cX10_fliesWith 23 = .ok (.iconst 0, 1) := by decide +kernel
theorem dX10_fliesWith_24 : decode cX10_fliesWith 24 = .ok (.aload_n 0, 1) := by decide +kernel
theorem dX10_fliesWith_25 : decode cX10_fliesWith 25 = .ok (.getfield 7, 3) := by decide +kernel
theorem dX10_fliesWith_28 : decode cX10_fliesWith 28 = .ok (.iconst 0, 1) := by decide +kernel
theorem dX10_fliesWith_29 : decode cX10_fliesWith 29 = .ok (.iaload, 1) := by decide +kernel
theorem dX10_fliesWith_30 : decode cX10_fliesWith 30 = .ok (.iconst 1, 1) := by decide +kernel
theorem dX10_fliesWith_31 : decode cX10_fliesWith 31 = .ok (.isub, 1) := by decide +kernel
theorem dX10_fliesWith_32 : decode cX10_fliesWith 32 = .ok (.invokestatic 75, 3) := by decide +kernel
theorem dX10_fliesWith_35 : decode cX10_fliesWith 35 = .ok (.ifCond .eq 30, 3) := by decide +kernel
theorem dX10_fliesWith_38 : decode cX10_fliesWith 38 = .ok (.aload_n 0, 1) := by decide +kernel
theorem dX10_fliesWith_39 : decode cX10_fliesWith 39 = .ok (.iload_n 1, 1) := by decide +kernel
theorem dX10_fliesWith_40 : decode cX10_fliesWith 40 = .ok (.iload 4, 2) := by decide +kernel
theorem dX10_fliesWith_42 : decode cX10_fliesWith 42 = .ok (.iload_n 3, 1) := by decide +kernel
theorem dX10_fliesWith_43 : decode cX10_fliesWith 43 = .ok (.invokevirtual 112, 3) := by decide +kernel
theorem dX10_fliesWith_46 : decode cX10_fliesWith 46 = .ok (.iconst 0, 1) := by decide +kernel
theorem dX10_fliesWith_47 : decode cX10_fliesWith 47 = .ok (.aload_n 0, 1) := by decide +kernel
theorem dX10_fliesWith_48 : decode cX10_fliesWith 48 = .ok (.getfield 7, 3) := by decide +kernel
theorem dX10_fliesWith_51 : decode cX10_fliesWith 51 = .ok (.iconst 1, 1) := by decide +kernel
theorem dX10_fliesWith_52 : decode cX10_fliesWith 52 = .ok (.iaload, 1) := by decide +kernel
theorem dX10_fliesWith_53 : decode cX10_fliesWith 53 = .ok (.iconst 1, 1) := by decide +kernel
theorem dX10_fliesWith_54 : decode cX10_fliesWith 54 = .ok (.isub, 1) := by decide +kernel
theorem dX10_fliesWith_55 : decode cX10_fliesWith 55 = .ok (.invokestatic 75, 3) := by decide +kernel
theorem dX10_fliesWith_58 : decode cX10_fliesWith 58 = .ok (.ifCond .eq 7, 3) := by decide +kernel
theorem dX10_fliesWith_61 : decode cX10_fliesWith 61 = .ok (.iconst 1, 1) := by decide +kernel
theorem dX10_fliesWith_62 : decode cX10_fliesWith 62 = .ok (.goto 4, 3) := by decide +kernel
theorem dX10_fliesWith_65 : decode cX10_fliesWith 65 = .ok (.iconst 0, 1) := by decide +kernel
theorem dX10_fliesWith_66 : decode cX10_fliesWith 66 = .ok (.ireturn, 1) := by decide +kernel
theorem dX10_flies_0 : decode cX10_flies 0 = .ok (.aload_n 0, 1) := by decide +kernel
theorem dX10_flies_1 : decode cX10_flies 1 = .ok (.iload_n 1, 1) := by decide +kernel
theorem dX10_flies_2 : decode cX10_flies 2 = .ok (.aload_n 0, 1) := by decide +kernel
theorem dX10_flies_3 : decode cX10_flies 3 = .ok (.iload_n 1, 1) := by decide +kernel
theorem dX10_flies_4 : decode cX10_flies 4 = .ok (.iconst 4, 1) := by decide +kernel
theorem dX10_flies_5 : decode cX10_flies 5 = .ok (.invokevirtual 79, 3) := by decide +kernel
theorem dX10_flies_8 : decode cX10_flies 8 = .ok (.iload_n 2, 1) := by decide +kernel
theorem dX10_flies_9 : decode cX10_flies 9 = .ok (.invokevirtual 115, 3) := by decide +kernel
theorem dX10_flies_12 : decode cX10_flies 12 = .ok (.ireturn, 1) := by decide +kernel
theorem dX10_side_0 : decode cX10_side 0 = .ok (.iload_n 2, 1) := by decide +kernel
theorem dX10_side_1 : decode cX10_side 1 = .ok (.iload_n 0, 1) := by decide +kernel
theorem dX10_side_2 : decode cX10_side 2 = .ok (.isub, 1) := by decide +kernel
theorem dX10_side_3 : decode cX10_side 3 = .ok (.iload 5, 2) := by decide +kernel
theorem dX10_side_5 : decode cX10_side 5 = .ok (.iload_n 1, 1) := by decide +kernel
theorem dX10_side_6 : decode cX10_side 6 = .ok (.isub, 1) := by decide +kernel
theorem dX10_side_7 : decode cX10_side 7 = .ok (.imul, 1) := by decide +kernel
theorem dX10_side_8 : decode cX10_side 8 = .ok (.iload_n 3, 1) := by decide +kernel
theorem dX10_side_9 : decode cX10_side 9 = .ok (.iload_n 1, 1) := by decide +kernel
theorem dX10_side_10 : decode cX10_side 10 = .ok (.isub, 1) := by decide +kernel
theorem dX10_side_11 : decode cX10_side 11 = .ok (.iload 4, 2) := by decide +kernel
theorem dX10_side_13 : decode cX10_side 13 = .ok (.iload_n 0, 1) := by decide +kernel
theorem dX10_side_14 : decode cX10_side 14 = .ok (.isub, 1) := by decide +kernel
theorem dX10_side_15 : decode cX10_side 15 = .ok (.imul, 1) := by decide +kernel
theorem dX10_side_16 : decode cX10_side 16 = .ok (.isub, 1) := by decide +kernel
theorem dX10_side_17 : decode cX10_side 17 = .ok (.istore 6, 2) := by decide +kernel
theorem dX10_side_19 : decode cX10_side 19 = .ok (.iload 6, 2) := by decide +kernel
theorem dX10_side_21 : decode cX10_side 21 = .ok (.ifCond .ge 7, 3) := by decide +kernel
theorem dX10_side_24 : decode cX10_side 24 = .ok (.iconst (-1), 1) := by decide +kernel
theorem dX10_side_25 : decode cX10_side 25 = .ok (.goto 13, 3) := by decide +kernel
theorem dX10_side_28 : decode cX10_side 28 = .ok (.iload 6, 2) := by decide +kernel
theorem dX10_side_30 : decode cX10_side 30 = .ok (.ifCond .le 7, 3) := by decide +kernel
theorem dX10_side_33 : decode cX10_side 33 = .ok (.iconst 1, 1) := by decide +kernel
theorem dX10_side_34 : decode cX10_side 34 = .ok (.goto 4, 3) := by decide +kernel
theorem dX10_side_37 : decode cX10_side 37 = .ok (.iconst 0, 1) := by decide +kernel
theorem dX10_side_38 : decode cX10_side 38 = .ok (.ireturn, 1) := by decide +kernel
theorem dX10_inBox_0 : decode cX10_inBox 0 = .ok (.iload 4, 2) := by decide +kernel
theorem dX10_inBox_2 : decode cX10_inBox 2 = .ok (.iload_n 0, 1) := by decide +kernel
theorem dX10_inBox_3 : decode cX10_inBox 3 = .ok (.iload_n 2, 1) := by decide +kernel
theorem dX10_inBox_4 : decode cX10_inBox 4 = .ok (.invokestatic 90, 3) := by decide +kernel
theorem dX10_inBox_7 : decode cX10_inBox 7 = .ok (.iload_n 0, 1) := by decide +kernel
theorem dX10_inBox_8 : decode cX10_inBox 8 = .ok (.iload_n 2, 1) := by decide +kernel
theorem dX10_inBox_9 : decode cX10_inBox 9 = .ok (.invokestatic 118, 3) := by decide +kernel
theorem dX10_inBox_12 : decode cX10_inBox 12 = .ok (.invokestatic 75, 3) := by decide +kernel
theorem dX10_inBox_15 : decode cX10_inBox 15 = .ok (.ifCond .eq 25, 3) := by decide +kernel
theorem dX10_inBox_18 : decode cX10_inBox 18 = .ok (.iload 5, 2) := by decide +kernel
theorem dX10_inBox_20 : decode cX10_inBox 20 = .ok (.iload_n 1, 1) := by decide +kernel
theorem dX10_inBox_21 : decode cX10_inBox 21 = .ok (.iload_n 3, 1) := by decide +kernel
theorem dX10_inBox_22 : decode cX10_inBox 22 = .ok (.invokestatic 90, 3) := by decide +kernel
theorem dX10_inBox_25 : decode cX10_inBox 25 = .ok (.iload_n 1, 1) := by decide +kernel
theorem dX10_inBox_26 : decode cX10_inBox 26 = .ok (.iload_n 3, 1) := by decide +kernel
theorem dX10_inBox_27 : decode cX10_inBox 27 = .ok (.invokestatic 118, 3) := by decide +kernel
theorem dX10_inBox_30 : decode cX10_inBox 30 = .ok (.invokestatic 75, 3) := by decide +kernel
theorem dX10_inBox_33 : decode cX10_inBox 33 = .ok (.ifCond .eq 7, 3) := by decide +kernel
theorem dX10_inBox_36 : decode cX10_inBox 36 = .ok (.iconst 1, 1) := by decide +kernel
theorem dX10_inBox_37 : decode cX10_inBox 37 = .ok (.goto 4, 3) := by decide +kernel
theorem dX10_inBox_40 : decode cX10_inBox 40 = .ok (.iconst 0, 1) := by decide +kernel
theorem dX10_inBox_41 : decode cX10_inBox 41 = .ok (.ireturn, 1) := by decide +kernel
theorem dX10_cross_0 : decode cX10_cross 0 = .ok (.aload_n 0, 1) := by decide +kernel
theorem dX10_cross_1 : decode cX10_cross 1 = .ok (.iload_n 1, 1) := by decide +kernel
theorem dX10_cross_2 : decode cX10_cross 2 = .ok (.iconst 0, 1) := by decide +kernel
theorem dX10_cross_3 : decode cX10_cross 3 = .ok (.invokevirtual 79, 3) := by decide +kernel
theorem dX10_cross_6 : decode cX10_cross 6 = .ok (.istore 4, 2) := by decide +kernel
theorem dX10_cross_8 : decode cX10_cross 8 = .ok (.aload_n 0, 1) := by decide +kernel
theorem dX10_cross_9 : decode cX10_cross 9 = .ok (.iload_n 1, 1) := by decide +kernel
theorem dX10_cross_10 : decode cX10_cross 10 = .ok (.iconst 1, 1) := by decide +kernel
theorem dX10_cross_11 : decode cX10_cross 11 = .ok (.invokevirtual 79, 3) := by decide +kernel
theorem dX10_cross_14 : decode cX10_cross 14 = .ok (.istore 5, 2) := by decide +kernel
theorem dX10_cross_16 : decode cX10_cross 16 = .ok (.aload_n 0, 1) := by decide +kernel
theorem dX10_cross_17 : decode cX10_cross 17 = .ok (.iload_n 1, 1) := by decide +kernel
theorem dX10_cross_18 : decode cX10_cross 18 = .ok (.iload_n 3, 1) := by decide +kernel
theorem dX10_cross_19 : decode cX10_cross 19 = .ok (.invokevirtual 121, 3) := by decide +kernel
theorem dX10_cross_22 : decode cX10_cross 22 = .ok (.istore 6, 2) := by decide +kernel
theorem dX10_cross_24 : decode cX10_cross 24 = .ok (.aload_n 0, 1) := by decide +kernel
theorem dX10_cross_25 : decode cX10_cross 25 = .ok (.iload_n 1, 1) := by decide +kernel
theorem dX10_cross_26 : decode cX10_cross 26 = .ok (.iload_n 3, 1) := by decide +kernel
theorem dX10_cross_27 : decode cX10_cross 27 = .ok (.invokevirtual 124, 3) := by decide +kernel
theorem dX10_cross_30 : decode cX10_cross 30 = .ok (.istore 7, 2) := by decide +kernel
theorem dX10_cross_32 : decode cX10_cross 32 = .ok (.aload_n 0, 1) := by decide +kernel
theorem dX10_cross_33 : decode cX10_cross 33 = .ok (.iload_n 2, 1) := by decide +kernel
theorem dX10_cross_34 : decode cX10_cross 34 = .ok (.iconst 0, 1) := by decide +kernel
theorem dX10_cross_35 : decode cX10_cross 35 = .ok (.invokevirtual 79, 3) := by decide +kernel
theorem dX10_cross_38 : decode cX10_cross 38 = .ok (.istore 8, 2) := by decide +kernel
theorem dX10_cross_40 : decode cX10_cross 40 = .ok (.aload_n 0, 1) := by decide +kernel
theorem dX10_cross_41 : decode cX10_cross 41 = .ok (.iload_n 2, 1) := by decide +kernel
theorem dX10_cross_42 : decode cX10_cross 42 = .ok (.iconst 1, 1) := by decide +kernel
theorem dX10_cross_43 : decode cX10_cross 43 = .ok (.invokevirtual 79, 3) := by decide +kernel
theorem dX10_cross_46 : decode cX10_cross 46 = .ok (.istore 9, 2) := by decide +kernel
theorem dX10_cross_48 : decode cX10_cross 48 = .ok (.aload_n 0, 1) := by decide +kernel
theorem dX10_cross_49 : decode cX10_cross 49 = .ok (.iload_n 2, 1) := by decide +kernel
theorem dX10_cross_50 : decode cX10_cross 50 = .ok (.iload_n 3, 1) := by decide +kernel
theorem dX10_cross_51 : decode cX10_cross 51 = .ok (.invokevirtual 121, 3) := by decide +kernel
theorem dX10_cross_54 : decode cX10_cross 54 = .ok (.istore 10, 2) := by decide +kernel
theorem dX10_cross_56 : decode cX10_cross 56 = .ok (.aload_n 0, 1) := by decide +kernel
theorem dX10_cross_57 : decode cX10_cross 57 = .ok (.iload_n 2, 1) := by decide +kernel
theorem dX10_cross_58 : decode cX10_cross 58 = .ok (.iload_n 3, 1) := by decide +kernel
theorem dX10_cross_59 : decode cX10_cross 59 = .ok (.invokevirtual 124, 3) := by decide +kernel
theorem dX10_cross_62 : decode cX10_cross 62 = .ok (.istore 11, 2) := by decide +kernel
theorem dX10_cross_64 : decode cX10_cross 64 = .ok (.iload 4, 2) := by decide +kernel
theorem dX10_cross_66 : decode cX10_cross 66 = .ok (.iload 5, 2) := by decide +kernel
theorem dX10_cross_68 : decode cX10_cross 68 = .ok (.iload 6, 2) := by decide +kernel
theorem dX10_cross_70 : decode cX10_cross 70 = .ok (.iload 7, 2) := by decide +kernel
theorem dX10_cross_72 : decode cX10_cross 72 = .ok (.iload 8, 2) := by decide +kernel
theorem dX10_cross_74 : decode cX10_cross 74 = .ok (.iload 9, 2) := by decide +kernel
theorem dX10_cross_76 : decode cX10_cross 76 = .ok (.invokestatic 127, 3) := by decide +kernel
theorem dX10_cross_79 : decode cX10_cross 79 = .ok (.istore 12, 2) := by decide +kernel
theorem dX10_cross_81 : decode cX10_cross 81 = .ok (.iload 4, 2) := by decide +kernel
theorem dX10_cross_83 : decode cX10_cross 83 = .ok (.iload 5, 2) := by decide +kernel
theorem dX10_cross_85 : decode cX10_cross 85 = .ok (.iload 6, 2) := by decide +kernel
theorem dX10_cross_87 : decode cX10_cross 87 = .ok (.iload 7, 2) := by decide +kernel
theorem dX10_cross_89 : decode cX10_cross 89 = .ok (.iload 10, 2) := by decide +kernel
theorem dX10_cross_91 : decode cX10_cross 91 = .ok (.iload 11, 2) := by decide +kernel
theorem dX10_cross_93 : decode cX10_cross 93 = .ok (.invokestatic 127, 3) := by decide +kernel
theorem dX10_cross_96 : decode cX10_cross 96 = .ok (.istore 13, 2) := by decide +kernel
theorem dX10_cross_98 : decode cX10_cross 98 = .ok (.iload 8, 2) := by decide +kernel
theorem dX10_cross_100 : decode cX10_cross 100 = .ok (.iload 9, 2) := by decide +kernel
theorem dX10_cross_102 : decode cX10_cross 102 = .ok (.iload 10, 2) := by decide +kernel
theorem dX10_cross_104 : decode cX10_cross 104 = .ok (.iload 11, 2) := by decide +kernel
theorem dX10_cross_106 : decode cX10_cross 106 = .ok (.iload 4, 2) := by decide +kernel
theorem dX10_cross_108 : decode cX10_cross 108 = .ok (.iload 5, 2) := by decide +kernel
theorem dX10_cross_110 : decode cX10_cross 110 = .ok (.invokestatic 127, 3) := by decide +kernel
theorem dX10_cross_113 : decode cX10_cross 113 = .ok (.istore 14, 2) := by decide +kernel
theorem dX10_cross_115 : decode cX10_cross 115 = .ok (.iload 8, 2) := by decide +kernel
theorem dX10_cross_117 : decode cX10_cross 117 = .ok (.iload 9, 2) := by decide +kernel
theorem dX10_cross_119 : decode cX10_cross 119 = .ok (.iload 10, 2) := by decide +kernel
theorem dX10_cross_121 : decode cX10_cross 121 = .ok (.iload 11, 2) := by decide +kernel
theorem dX10_cross_123 : decode cX10_cross 123 = .ok (.iload 6, 2) := by decide +kernel
theorem dX10_cross_125 : decode cX10_cross 125 = .ok (.iload 7, 2) := by decide +kernel
theorem dX10_cross_127 : decode cX10_cross 127 = .ok (.invokestatic 127, 3) := by decide +kernel
theorem dX10_cross_130 : decode cX10_cross 130 = .ok (.istore 15, 2) := by decide +kernel
theorem dX10_cross_132 : decode cX10_cross 132 = .ok (.iload 12, 2) := by decide +kernel
theorem dX10_cross_134 : decode cX10_cross 134 = .ok (.iload 13, 2) := by decide +kernel
theorem dX10_cross_136 : decode cX10_cross 136 = .ok (.imul, 1) := by decide +kernel
theorem dX10_cross_137 : decode cX10_cross 137 = .ok (.ifCond .ge 13, 3) := by decide +kernel
theorem dX10_cross_140 : decode cX10_cross 140 = .ok (.iload 14, 2) := by decide +kernel
theorem dX10_cross_142 : decode cX10_cross 142 = .ok (.iload 15, 2) := by decide +kernel
theorem dX10_cross_144 : decode cX10_cross 144 = .ok (.imul, 1) := by decide +kernel
theorem dX10_cross_145 : decode cX10_cross 145 = .ok (.ifCond .ge 5, 3) := by decide +kernel
theorem dX10_cross_148 : decode cX10_cross 148 = .ok (.iconst 1, 1) := by decide +kernel
theorem dX10_cross_149 : decode cX10_cross 149 = .ok (.ireturn, 1) := by decide +kernel
theorem dX10_cross_150 : decode cX10_cross 150 = .ok (.iload 12, 2) := by decide +kernel
theorem dX10_cross_152 : decode cX10_cross 152 = .ok (.ifCond .ne 21, 3) := by decide +kernel
theorem dX10_cross_155 : decode cX10_cross 155 = .ok (.iload 4, 2) := by decide +kernel
theorem dX10_cross_157 : decode cX10_cross 157 = .ok (.iload 5, 2) := by decide +kernel
theorem dX10_cross_159 : decode cX10_cross 159 = .ok (.iload 6, 2) := by decide +kernel
theorem dX10_cross_161 : decode cX10_cross 161 = .ok (.iload 7, 2) := by decide +kernel
theorem dX10_cross_163 : decode cX10_cross 163 = .ok (.iload 8, 2) := by decide +kernel
theorem dX10_cross_165 : decode cX10_cross 165 = .ok (.iload 9, 2) := by decide +kernel
theorem dX10_cross_167 : decode cX10_cross 167 = .ok (.invokestatic 130, 3) := by decide +kernel
theorem dX10_cross_170 : decode cX10_cross 170 = .ok (.ifCond .ne 26, 3) := by decide +kernel
theorem dX10_cross_173 : decode cX10_cross 173 = .ok (.iload 13, 2) := by decide +kernel
theorem dX10_cross_175 : decode cX10_cross 175 = .ok (.ifCond .ne 23, 3) := by decide +kernel
theorem dX10_cross_178 : decode cX10_cross 178 = .ok (.iload 4, 2) := by decide +kernel
theorem dX10_cross_180 : decode cX10_cross 180 = .ok (.iload 5, 2) := by decide +kernel
theorem dX10_cross_182 : decode cX10_cross 182 = .ok (.iload 6, 2) := by decide +kernel
theorem dX10_cross_184 : decode cX10_cross 184 = .ok (.iload 7, 2) := by decide +kernel
theorem dX10_cross_186 : decode cX10_cross 186 = .ok (.iload 10, 2) := by decide +kernel
theorem dX10_cross_188 : decode cX10_cross 188 = .ok (.iload 11, 2) := by decide +kernel
theorem dX10_cross_190 : decode cX10_cross 190 = .ok (.invokestatic 130, 3) := by decide +kernel
theorem dX10_cross_193 : decode cX10_cross 193 = .ok (.ifCond .eq 5, 3) := by decide +kernel
theorem dX10_cross_196 : decode cX10_cross 196 = .ok (.iconst 1, 1) := by decide +kernel
theorem dX10_cross_197 : decode cX10_cross 197 = .ok (.ireturn, 1) := by decide +kernel
theorem dX10_cross_198 : decode cX10_cross 198 = .ok (.iload 14, 2) := by decide +kernel
theorem dX10_cross_200 : decode cX10_cross 200 = .ok (.ifCond .ne 21, 3) := by decide +kernel
theorem dX10_cross_203 : decode cX10_cross 203 = .ok (.iload 8, 2) := by decide +kernel
theorem dX10_cross_205 : decode cX10_cross 205 = .ok (.iload 9, 2) := by decide +kernel
theorem dX10_cross_207 : decode cX10_cross 207 = .ok (.iload 10, 2) := by decide +kernel
theorem dX10_cross_209 : decode cX10_cross 209 = .ok (.iload 11, 2) := by decide +kernel
theorem dX10_cross_211 : decode cX10_cross 211 = .ok (.iload 4, 2) := by decide +kernel
theorem dX10_cross_213 : decode cX10_cross 213 = .ok (.iload 5, 2) := by decide +kernel
theorem dX10_cross_215 : decode cX10_cross 215 = .ok (.invokestatic 130, 3) := by decide +kernel
theorem dX10_cross_218 : decode cX10_cross 218 = .ok (.ifCond .ne 26, 3) := by decide +kernel
theorem dX10_cross_221 : decode cX10_cross 221 = .ok (.iload 15, 2) := by decide +kernel
theorem dX10_cross_223 : decode cX10_cross 223 = .ok (.ifCond .ne 25, 3) := by decide +kernel
theorem dX10_cross_226 : decode cX10_cross 226 = .ok (.iload 8, 2) := by decide +kernel
theorem dX10_cross_228 : decode cX10_cross 228 = .ok (.iload 9, 2) := by decide +kernel
theorem dX10_cross_230 : decode cX10_cross 230 = .ok (.iload 10, 2) := by decide +kernel
theorem dX10_cross_232 : decode cX10_cross 232 = .ok (.iload 11, 2) := by decide +kernel
theorem dX10_cross_234 : decode cX10_cross 234 = .ok (.iload 6, 2) := by decide +kernel
theorem dX10_cross_236 : decode cX10_cross 236 = .ok (.iload 7, 2) := by decide +kernel
theorem dX10_cross_238 : decode cX10_cross 238 = .ok (.invokestatic 130, 3) := by decide +kernel
theorem dX10_cross_241 : decode cX10_cross 241 = .ok (.ifCond .eq 7, 3) := by decide +kernel
theorem dX10_cross_244 : decode cX10_cross 244 = .ok (.iconst 1, 1) := by decide +kernel
theorem dX10_cross_245 : decode cX10_cross 245 = .ok (.goto 4, 3) := by decide +kernel
theorem dX10_cross_248 : decode cX10_cross 248 = .ok (.iconst 0, 1) := by decide +kernel
theorem dX10_cross_249 : decode cX10_cross 249 = .ok (.ireturn, 1) := by decide +kernel
theorem dX10_covers_0 : decode cX10_covers 0 = .ok (.sipush 214, 3) := by decide +kernel
theorem dX10_covers_3 : decode cX10_covers 3 = .ok (.iconst 3, 1) := by decide +kernel
theorem dX10_covers_4 : decode cX10_covers 4 = .ok (.iload_n 1, 1) := by decide +kernel
theorem dX10_covers_5 : decode cX10_covers 5 = .ok (.imul, 1) := by decide +kernel
theorem dX10_covers_6 : decode cX10_covers 6 = .ok (.iadd, 1) := by decide +kernel
theorem dX10_covers_7 : decode cX10_covers 7 = .ok (.istore_n 3, 1) := by decide +kernel
theorem dX10_covers_8 : decode cX10_covers 8 = .ok (.iload_n 2, 1) := by decide +kernel
theorem dX10_covers_9 : decode cX10_covers 9 = .ok (.aload_n 0, 1) := by decide +kernel
theorem dX10_covers_10 : decode cX10_covers 10 = .ok (.getfield 7, 3) := by decide +kernel
theorem dX10_covers_13 : decode cX10_covers 13 = .ok (.iload_n 3, 1) := by decide +kernel
theorem dX10_covers_14 : decode cX10_covers 14 = .ok (.iconst 1, 1) := by decide +kernel
theorem dX10_covers_15 : decode cX10_covers 15 = .ok (.iadd, 1) := by decide +kernel
theorem dX10_covers_16 : decode cX10_covers 16 = .ok (.iaload, 1) := by decide +kernel
theorem dX10_covers_17 : decode cX10_covers 17 = .ok (.aload_n 0, 1) := by decide +kernel
theorem dX10_covers_18 : decode cX10_covers 18 = .ok (.getfield 7, 3) := by decide +kernel
theorem dX10_covers_21 : decode cX10_covers 21 = .ok (.iload_n 3, 1) := by decide +kernel
theorem dX10_covers_22 : decode cX10_covers 22 = .ok (.iconst 1, 1) := by decide +kernel
theorem dX10_covers_23 : decode cX10_covers 23 = .ok (.iadd, 1) := by decide +kernel
theorem dX10_covers_24 : decode cX10_covers 24 = .ok (.iaload, 1) := by decide +kernel
theorem dX10_covers_25 : decode cX10_covers 25 = .ok (.aload_n 0, 1) := by decide +kernel
theorem dX10_covers_26 : decode cX10_covers 26 = .ok (.getfield 7, 3) := by decide +kernel
theorem dX10_covers_29 : decode cX10_covers 29 = .ok (.iload_n 3, 1) := by decide +kernel
theorem dX10_covers_30 : decode cX10_covers 30 = .ok (.iconst 2, 1) := by decide +kernel
theorem dX10_covers_31 : decode cX10_covers 31 = .ok (.iadd, 1) := by decide +kernel
theorem dX10_covers_32 : decode cX10_covers 32 = .ok (.iaload, 1) := by decide +kernel
theorem dX10_covers_33 : decode cX10_covers 33 = .ok (.iadd, 1) := by decide +kernel
theorem dX10_covers_34 : decode cX10_covers 34 = .ok (.iconst 1, 1) := by decide +kernel
theorem dX10_covers_35 : decode cX10_covers 35 = .ok (.isub, 1) := by decide +kernel
theorem dX10_covers_36 : decode cX10_covers 36 = .ok (.invokestatic 75, 3) := by decide +kernel
theorem dX10_covers_39 : decode cX10_covers 39 = .ok (.ireturn, 1) := by decide +kernel
theorem dX10_permitted_0 : decode cX10_permitted 0 = .ok (.iconst 0, 1) := by decide +kernel
theorem dX10_permitted_1 : decode cX10_permitted 1 = .ok (.istore_n 3, 1) := by decide +kernel
theorem dX10_permitted_2 : decode cX10_permitted 2 = .ok (.iload_n 3, 1) := by decide +kernel
theorem dX10_permitted_3 : decode cX10_permitted 3 = .ok (.aload_n 0, 1) := by decide +kernel
theorem dX10_permitted_4 : decode cX10_permitted 4 = .ok (.getfield 7, 3) := by decide +kernel
theorem dX10_permitted_7 : decode cX10_permitted 7 = .ok (.bipush 11, 2) := by decide +kernel
theorem dX10_permitted_9 : decode cX10_permitted 9 = .ok (.iaload, 1) := by decide +kernel
theorem dX10_permitted_10 : decode cX10_permitted 10 = .ok (.if_icmp .ge 36, 3) := by decide +kernel
theorem dX10_permitted_13 : decode cX10_permitted 13 = .ok (.aload_n 0, 1) := by decide +kernel
theorem dX10_permitted_14 : decode cX10_permitted 14 = .ok (.getfield 7, 3) := by decide +kernel
theorem dX10_permitted_17 : decode cX10_permitted 17 = .ok (.sipush 214, 3) := by decide +kernel
theorem dX10_permitted_20 : decode cX10_permitted 20 = .ok (.iconst 3, 1) := by decide +kernel
theorem dX10_permitted_21 : decode cX10_permitted 21 = .ok (.iload_n 3, 1) := by decide +kernel
theorem dX10_permitted_22 : decode cX10_permitted 22 = .ok (.imul, 1) := by decide +kernel
theorem dX10_permitted_23 : decode cX10_permitted 23 = .ok (.iadd, 1) := by decide +kernel
theorem dX10_permitted_24 : decode cX10_permitted 24 = .ok (.iaload, 1) := by decide +kernel
theorem dX10_permitted_25 : decode cX10_permitted 25 = .ok (.iload_n 1, 1) := by decide +kernel
theorem dX10_permitted_26 : decode cX10_permitted 26 = .ok (.if_icmp .ne 14, 3) := by decide +kernel
theorem dX10_permitted_29 : decode cX10_permitted 29 = .ok (.aload_n 0, 1) := by decide +kernel
theorem dX10_permitted_30 : decode cX10_permitted 30 = .ok (.iload_n 3, 1) := by decide +kernel
theorem dX10_permitted_31 : decode cX10_permitted 31 = .ok (.iload_n 2, 1) := by decide +kernel
theorem dX10_permitted_32 : decode cX10_permitted 32 = .ok (.invokevirtual 134, 3) := by decide +kernel
theorem dX10_permitted_35 : decode cX10_permitted 35 = .ok (.ifCond .eq 5, 3) := by decide +kernel
theorem dX10_permitted_38 : decode cX10_permitted 38 = .ok (.iconst 1, 1) := by decide +kernel
theorem dX10_permitted_39 : decode cX10_permitted 39 = .ok (.ireturn, 1) := by decide +kernel
theorem dX10_permitted_40 : decode cX10_permitted 40 = .ok (.iinc 3 1, 3) := by decide +kernel
theorem dX10_permitted_43 : decode cX10_permitted 43 = .ok (.goto (-41), 3) := by decide +kernel
theorem dX10_permitted_46 : decode cX10_permitted 46 = .ok (.iconst 0, 1) := by decide +kernel
theorem dX10_permitted_47 : decode cX10_permitted 47 = .ok (.ireturn, 1) := by decide +kernel
theorem dX10_used_0 : decode cX10_used 0 = .ok (.iconst 0, 1) := by decide +kernel
theorem dX10_used_1 : decode cX10_used 1 = .ok (.istore_n 3, 1) := by decide +kernel
theorem dX10_used_2 : decode cX10_used 2 = .ok (.iconst 0, 1) := by decide +kernel
theorem dX10_used_3 : decode cX10_used 3 = .ok (.istore 4, 2) := by decide +kernel
theorem dX10_used_5 : decode cX10_used 5 = .ok (.iload 4, 2) := by decide +kernel
theorem dX10_used_7 : decode cX10_used 7 = .ok (.aload_n 0, 1) := by decide +kernel
theorem dX10_used_8 : decode cX10_used 8 = .ok (.getfield 7, 3) := by decide +kernel
theorem dX10_used_11 : decode cX10_used 11 = .ok (.bipush 11, 2) := by decide +kernel
theorem dX10_used_13 : decode cX10_used 13 = .ok (.iaload, 1) := by decide +kernel
theorem dX10_used_14 : decode cX10_used 14 = .ok (.if_icmp .ge 44, 3) := by decide +kernel
theorem dX10_used_17 : decode cX10_used 17 = .ok (.aload_n 0, 1) := by decide +kernel
theorem dX10_used_18 : decode cX10_used 18 = .ok (.aload_n 0, 1) := by decide +kernel
theorem dX10_used_19 : decode cX10_used 19 = .ok (.getfield 7, 3) := by decide +kernel
theorem dX10_used_22 : decode cX10_used 22 = .ok (.sipush 214, 3) := by decide +kernel
theorem dX10_used_25 : decode cX10_used 25 = .ok (.iconst 3, 1) := by decide +kernel
theorem dX10_used_26 : decode cX10_used 26 = .ok (.iload 4, 2) := by decide +kernel
theorem dX10_used_28 : decode cX10_used 28 = .ok (.imul, 1) := by decide +kernel
theorem dX10_used_29 : decode cX10_used 29 = .ok (.iadd, 1) := by decide +kernel
theorem dX10_used_30 : decode cX10_used 30 = .ok (.iaload, 1) := by decide +kernel
theorem dX10_used_31 : decode cX10_used 31 = .ok (.iconst 3, 1) := by decide +kernel
theorem dX10_used_32 : decode cX10_used 32 = .ok (.invokevirtual 79, 3) := by decide +kernel
theorem dX10_used_35 : decode cX10_used 35 = .ok (.iload_n 1, 1) := by decide +kernel
theorem dX10_used_36 : decode cX10_used 36 = .ok (.if_icmp .ne 16, 3) := by decide +kernel
theorem dX10_used_39 : decode cX10_used 39 = .ok (.aload_n 0, 1) := by decide +kernel
theorem dX10_used_40 : decode cX10_used 40 = .ok (.iload 4, 2) := by decide +kernel
theorem dX10_used_42 : decode cX10_used 42 = .ok (.iload_n 2, 1) := by decide +kernel
theorem dX10_used_43 : decode cX10_used 43 = .ok (.invokevirtual 134, 3) := by decide +kernel
theorem dX10_used_46 : decode cX10_used 46 = .ok (.ifCond .eq 6, 3) := by decide +kernel
theorem dX10_used_49 : decode cX10_used 49 = .ok (.iinc 3 1, 3) := by decide +kernel
theorem dX10_used_52 : decode cX10_used 52 = .ok (.iinc 4 1, 3) := by decide +kernel
theorem dX10_used_55 : decode cX10_used 55 = .ok (.goto (-50), 3) := by decide +kernel
theorem dX10_used_58 : decode cX10_used 58 = .ok (.iload_n 3, 1) := by decide +kernel
theorem dX10_used_59 : decode cX10_used 59 = .ok (.ireturn, 1) := by decide +kernel
theorem dX10_crossedIn_0 : decode cX10_crossedIn 0 = .ok (.iconst 0, 1) := by decide +kernel
theorem dX10_crossedIn_1 : decode cX10_crossedIn 1 = .ok (.istore_n 3, 1) := by decide +kernel
theorem dX10_crossedIn_2 : decode cX10_crossedIn 2 = .ok (.iload_n 3, 1) := by decide +kernel
theorem dX10_crossedIn_3 : decode cX10_crossedIn 3 = .ok (.aload_n 0, 1) := by decide +kernel
theorem dX10_crossedIn_4 : decode cX10_crossedIn 4 = .ok (.getfield 7, 3) := by decide +kernel
theorem dX10_crossedIn_7 : decode cX10_crossedIn 7 = .ok (.bipush 6, 2) := by decide +kernel
theorem dX10_crossedIn_9 : decode cX10_crossedIn 9 = .ok (.iaload, 1) := by decide +kernel
theorem dX10_crossedIn_10 : decode cX10_crossedIn 10 = .ok (.if_icmp .ge 35, 3) := by decide +kernel
theorem dX10_crossedIn_13 : decode cX10_crossedIn 13 = .ok (.iload_n 3, 1) := by decide +kernel
theorem dX10_crossedIn_14 : decode cX10_crossedIn 14 = .ok (.iload_n 1, 1) := by decide +kernel
theorem dX10_crossedIn_15 : decode cX10_crossedIn 15 = .ok (.if_icmp .eq 24, 3) := by decide +kernel
theorem dX10_crossedIn_18 : decode cX10_crossedIn 18 = .ok (.aload_n 0, 1) := by decide +kernel
theorem dX10_crossedIn_19 : decode cX10_crossedIn 19 = .ok (.iload_n 3, 1) := by decide +kernel
theorem dX10_crossedIn_20 : decode cX10_crossedIn 20 = .ok (.iload_n 2, 1) := by decide +kernel
theorem dX10_crossedIn_21 : decode cX10_crossedIn 21 = .ok (.invokevirtual 138, 3) := by decide +kernel
theorem dX10_crossedIn_24 : decode cX10_crossedIn 24 = .ok (.ifCond .eq 15, 3) := by decide +kernel
theorem dX10_crossedIn_27 : decode cX10_crossedIn 27 = .ok (.aload_n 0, 1) := by decide +kernel
theorem dX10_crossedIn_28 : decode cX10_crossedIn 28 = .ok (.iload_n 1, 1) := by decide +kernel
theorem dX10_crossedIn_29 : decode cX10_crossedIn 29 = .ok (.iload_n 3, 1) := by decide +kernel
theorem dX10_crossedIn_30 : decode cX10_crossedIn 30 = .ok (.iload_n 2, 1) := by decide +kernel
theorem dX10_crossedIn_31 : decode cX10_crossedIn 31 = .ok (.invokevirtual 141, 3) := by decide +kernel
theorem dX10_crossedIn_34 : decode cX10_crossedIn 34 = .ok (.ifCond .eq 5, 3) := by decide +kernel
theorem dX10_crossedIn_37 : decode cX10_crossedIn 37 = .ok (.iload_n 3, 1) := by decide +kernel
theorem dX10_crossedIn_38 : decode cX10_crossedIn 38 = .ok (.ireturn, 1) := by decide +kernel
theorem dX10_crossedIn_39 : decode cX10_crossedIn 39 = .ok (.iinc 3 1, 3) := by decide +kernel
theorem dX10_crossedIn_42 : decode cX10_crossedIn 42 = .ok (.goto (-40), 3) := by decide +kernel
theorem dX10_crossedIn_45 : decode cX10_crossedIn 45 = .ok (.iconst (-1), 1) := by decide +kernel
theorem dX10_crossedIn_46 : decode cX10_crossedIn 46 = .ok (.ireturn, 1) := by decide +kernel
theorem dX10_inTheWay_0 : decode cX10_inTheWay 0 = .ok (.iconst (-1), 1) := by decide +kernel
theorem dX10_inTheWay_1 : decode cX10_inTheWay 1 = .ok (.istore 4, 2) := by decide +kernel
theorem dX10_inTheWay_3 : decode cX10_inTheWay 3 = .ok (.iload_n 2, 1) := by decide +kernel
theorem dX10_inTheWay_4 : decode cX10_inTheWay 4 = .ok (.istore 5, 2) := by decide +kernel
theorem dX10_inTheWay_6 : decode cX10_inTheWay 6 = .ok (.iload 5, 2) := by decide +kernel
theorem dX10_inTheWay_8 : decode cX10_inTheWay 8 = .ok (.iload_n 2, 1) := by decide +kernel
theorem dX10_inTheWay_9 : decode cX10_inTheWay 9 = .ok (.iload_n 3, 1) := by decide +kernel
theorem dX10_inTheWay_10 : decode cX10_inTheWay 10 = .ok (.iadd, 1) := by decide +kernel
theorem dX10_inTheWay_11 : decode cX10_inTheWay 11 = .ok (.if_icmp .ge 39, 3) := by decide +kernel
theorem dX10_inTheWay_14 : decode cX10_inTheWay 14 = .ok (.aload_n 0, 1) := by decide +kernel
theorem dX10_inTheWay_15 : decode cX10_inTheWay 15 = .ok (.iload_n 1, 1) := by decide +kernel
theorem dX10_inTheWay_16 : decode cX10_inTheWay 16 = .ok (.iload 5, 2) := by decide +kernel
theorem dX10_inTheWay_18 : decode cX10_inTheWay 18 = .ok (.invokevirtual 144, 3) := by decide +kernel
theorem dX10_inTheWay_21 : decode cX10_inTheWay 21 = .ok (.istore 6, 2) := by decide +kernel
theorem dX10_inTheWay_23 : decode cX10_inTheWay 23 = .ok (.iload 6, 2) := by decide +kernel
theorem dX10_inTheWay_25 : decode cX10_inTheWay 25 = .ok (.ifCond .lt 19, 3) := by decide +kernel
theorem dX10_inTheWay_28 : decode cX10_inTheWay 28 = .ok (.iload 4, 2) := by decide +kernel
theorem dX10_inTheWay_30 : decode cX10_inTheWay 30 = .ok (.ifCond .lt 10, 3) := by decide +kernel
theorem dX10_inTheWay_33 : decode cX10_inTheWay 33 = .ok (.iload 6, 2) := by decide +kernel
theorem dX10_inTheWay_35 : decode cX10_inTheWay 35 = .ok (.iload 4, 2) := by decide +kernel
theorem dX10_inTheWay_37 : decode cX10_inTheWay 37 = .ok (.if_icmp .ge 7, 3) := by decide +kernel
theorem dX10_inTheWay_40 : decode cX10_inTheWay 40 = .ok (.iload 6, 2) := by decide +kernel
theorem dX10_inTheWay_42 : decode cX10_inTheWay 42 = .ok (.istore 4, 2) := by decide +kernel
theorem dX10_inTheWay_44 : decode cX10_inTheWay 44 = .ok (.iinc 5 1, 3) := by decide +kernel
theorem dX10_inTheWay_47 : decode cX10_inTheWay 47 = .ok (.goto (-41), 3) := by decide +kernel
theorem dX10_inTheWay_50 : decode cX10_inTheWay 50 = .ok (.iload 4, 2) := by decide +kernel
theorem dX10_inTheWay_52 : decode cX10_inTheWay 52 = .ok (.ireturn, 1) := by decide +kernel
theorem dX10_refusal_0 : decode cX10_refusal 0 = .ok (.aload_n 0, 1) := by decide +kernel
theorem dX10_refusal_1 : decode cX10_refusal 1 = .ok (.iload_n 1, 1) := by decide +kernel
theorem dX10_refusal_2 : decode cX10_refusal 2 = .ok (.iconst 3, 1) := by decide +kernel
theorem dX10_refusal_3 : decode cX10_refusal 3 = .ok (.invokevirtual 79, 3) := by decide +kernel
theorem dX10_refusal_6 : decode cX10_refusal 6 = .ok (.istore 4, 2) := by decide +kernel
theorem dX10_refusal_8 : decode cX10_refusal 8 = .ok (.iload_n 2, 1) := by decide +kernel
theorem dX10_refusal_9 : decode cX10_refusal 9 = .ok (.iload_n 3, 1) := by decide +kernel
theorem dX10_refusal_10 : decode cX10_refusal 10 = .ok (.iadd, 1) := by decide +kernel
theorem dX10_refusal_11 : decode cX10_refusal 11 = .ok (.istore 5, 2) := by decide +kernel
theorem dX10_refusal_13 : decode cX10_refusal 13 = .ok (.iload_n 2, 1) := by decide +kernel
theorem dX10_refusal_14 : decode cX10_refusal 14 = .ok (.aload_n 0, 1) := by decide +kernel
theorem dX10_refusal_15 : decode cX10_refusal 15 = .ok (.getfield 7, 3) := by decide +kernel
theorem dX10_refusal_18 : decode cX10_refusal 18 = .ok (.bipush 7, 2) := by decide +kernel
theorem dX10_refusal_20 : decode cX10_refusal 20 = .ok (.iaload, 1) := by decide +kernel
theorem dX10_refusal_21 : decode cX10_refusal 21 = .ok (.if_icmp .ge 5, 3) := by decide +kernel
theorem dX10_refusal_24 : decode cX10_refusal 24 = .ok (.iconst 1, 1) := by decide +kernel
theorem dX10_refusal_25 : decode cX10_refusal 25 = .ok (.ireturn, 1) := by decide +kernel
theorem dX10_refusal_26 : decode cX10_refusal 26 = .ok (.aload_n 0, 1) := by decide +kernel
theorem dX10_refusal_27 : decode cX10_refusal 27 = .ok (.getfield 7, 3) := by decide +kernel
theorem dX10_refusal_30 : decode cX10_refusal 30 = .ok (.bipush 11, 2) := by decide +kernel
theorem dX10_refusal_32 : decode cX10_refusal 32 = .ok (.iaload, 1) := by decide +kernel
theorem dX10_refusal_33 : decode cX10_refusal 33 = .ok (.bipush 30, 2) := by decide +kernel
theorem dX10_refusal_35 : decode cX10_refusal 35 = .ok (.if_icmp .ne 5, 3) := by decide +kernel
theorem dX10_refusal_38 : decode cX10_refusal 38 = .ok (.iconst 2, 1) := by decide +kernel
theorem dX10_refusal_39 : decode cX10_refusal 39 = .ok (.ireturn, 1) := by decide +kernel
theorem dX10_refusal_40 : decode cX10_refusal 40 = .ok (.iload_n 2, 1) := by decide +kernel
theorem dX10_refusal_41 : decode cX10_refusal 41 = .ok (.istore 6, 2) := by decide +kernel
theorem dX10_refusal_43 : decode cX10_refusal 43 = .ok (.iload 6, 2) := by decide +kernel
theorem dX10_refusal_45 : decode cX10_refusal 45 = .ok (.iload 5, 2) := by decide +kernel
theorem dX10_refusal_47 : decode cX10_refusal 47 = .ok (.if_icmp .ge 21, 3) := by decide +kernel
theorem dX10_refusal_50 : decode cX10_refusal 50 = .ok (.aload_n 0, 1) := by decide +kernel
theorem dX10_refusal_51 : decode cX10_refusal 51 = .ok (.iload_n 1, 1) := by decide +kernel
theorem dX10_refusal_52 : decode cX10_refusal 52 = .ok (.iload 6, 2) := by decide +kernel
theorem dX10_refusal_54 : decode cX10_refusal 54 = .ok (.invokevirtual 138, 3) := by decide +kernel
theorem dX10_refusal_57 : decode cX10_refusal 57 = .ok (.ifCond .eq 5, 3) := by decide +kernel
theorem dX10_refusal_60 : decode cX10_refusal 60 = .ok (.iconst 3, 1) := by decide +kernel
theorem dX10_refusal_61 : decode cX10_refusal 61 = .ok (.ireturn, 1) := by decide +kernel
theorem dX10_refusal_62 : decode cX10_refusal 62 = .ok (.iinc 6 1, 3) := by decide +kernel
theorem dX10_refusal_65 : decode cX10_refusal 65 = .ok (.goto (-22), 3) := by decide +kernel
theorem dX10_refusal_68 : decode cX10_refusal 68 = .ok (.iload_n 2, 1) := by decide +kernel
theorem dX10_refusal_69 : decode cX10_refusal 69 = .ok (.istore 6, 2) := by decide +kernel
theorem dX10_refusal_71 : decode cX10_refusal 71 = .ok (.iload 6, 2) := by decide +kernel
theorem dX10_refusal_73 : decode cX10_refusal 73 = .ok (.iload 5, 2) := by decide +kernel
theorem dX10_refusal_75 : decode cX10_refusal 75 = .ok (.if_icmp .ge 32, 3) := by decide +kernel
theorem dX10_refusal_78 : decode cX10_refusal 78 = .ok (.aload_n 0, 1) := by decide +kernel
theorem dX10_refusal_79 : decode cX10_refusal 79 = .ok (.iload 4, 2) := by decide +kernel
theorem dX10_refusal_81 : decode cX10_refusal 81 = .ok (.iload 6, 2) := by decide +kernel
theorem dX10_refusal_83 : decode cX10_refusal 83 = .ok (.invokevirtual 147, 3) := by decide +kernel
theorem dX10_refusal_86 : decode cX10_refusal 86 = .ok (.aload_n 0, 1) := by decide +kernel
theorem dX10_refusal_87 : decode cX10_refusal 87 = .ok (.getfield 7, 3) := by decide +kernel
theorem dX10_refusal_90 : decode cX10_refusal 90 = .ok (.bipush 64, 2) := by decide +kernel
theorem dX10_refusal_92 : decode cX10_refusal 92 = .ok (.iload 4, 2) := by decide +kernel
theorem dX10_refusal_94 : decode cX10_refusal 94 = .ok (.iadd, 1) := by decide +kernel
theorem dX10_refusal_95 : decode cX10_refusal 95 = .ok (.iaload, 1) := by decide +kernel
theorem dX10_refusal_96 : decode cX10_refusal 96 = .ok (.if_icmp .lt 5, 3) := by decide +kernel
theorem dX10_refusal_99 : decode cX10_refusal 99 = .ok (.iconst 4, 1) := by decide +kernel
theorem dX10_refusal_100 : decode cX10_refusal 100 = .ok (.ireturn, 1) := by decide +kernel
theorem dX10_refusal_101 : decode cX10_refusal 101 = .ok (.iinc 6 1, 3) := by decide +kernel
theorem dX10_refusal_104 : decode cX10_refusal 104 = .ok (.goto (-33), 3) := by decide +kernel
theorem dX10_refusal_107 : decode cX10_refusal 107 = .ok (.iload_n 2, 1) := by decide +kernel
theorem dX10_refusal_108 : decode cX10_refusal 108 = .ok (.istore 6, 2) := by decide +kernel
theorem dX10_refusal_110 : decode cX10_refusal 110 = .ok (.iload 6, 2) := by decide +kernel
theorem dX10_refusal_112 : decode cX10_refusal 112 = .ok (.iload 5, 2) := by decide +kernel
theorem dX10_refusal_114 : decode cX10_refusal 114 = .ok (.if_icmp .ge 21, 3) := by decide +kernel
theorem dX10_refusal_117 : decode cX10_refusal 117 = .ok (.aload_n 0, 1) := by decide +kernel
theorem dX10_refusal_118 : decode cX10_refusal 118 = .ok (.iload_n 1, 1) := by decide +kernel
theorem dX10_refusal_119 : decode cX10_refusal 119 = .ok (.iload 6, 2) := by decide +kernel
theorem dX10_refusal_121 : decode cX10_refusal 121 = .ok (.invokevirtual 150, 3) := by decide +kernel
theorem dX10_refusal_124 : decode cX10_refusal 124 = .ok (.ifCond .ne 5, 3) := by decide +kernel
theorem dX10_refusal_127 : decode cX10_refusal 127 = .ok (.iconst 5, 1) := by decide +kernel
theorem dX10_refusal_128 : decode cX10_refusal 128 = .ok (.ireturn, 1) := by decide +kernel
theorem dX10_refusal_129 : decode cX10_refusal 129 = .ok (.iinc 6 1, 3) := by decide +kernel
theorem dX10_refusal_132 : decode cX10_refusal 132 = .ok (.goto (-22), 3) := by decide +kernel
theorem dX10_refusal_135 : decode cX10_refusal 135 = .ok (.aload_n 0, 1) := by decide +kernel
theorem dX10_refusal_136 : decode cX10_refusal 136 = .ok (.iload_n 1, 1) := by decide +kernel
theorem dX10_refusal_137 : decode cX10_refusal 137 = .ok (.iload_n 2, 1) := by decide +kernel
theorem dX10_refusal_138 : decode cX10_refusal 138 = .ok (.iload_n 3, 1) := by decide +kernel
theorem dX10_refusal_139 : decode cX10_refusal 139 = .ok (.invokevirtual 153, 3) := by decide +kernel
theorem dX10_refusal_142 : decode cX10_refusal 142 = .ok (.ifCond .lt 6, 3) := by decide +kernel
theorem dX10_refusal_145 : decode cX10_refusal 145 = .ok (.bipush 6, 2) := by decide +kernel
theorem dX10_refusal_147 : decode cX10_refusal 147 = .ok (.ireturn, 1) := by decide +kernel
theorem dX10_refusal_148 : decode cX10_refusal 148 = .ok (.aload_n 0, 1) := by decide +kernel
theorem dX10_refusal_149 : decode cX10_refusal 149 = .ok (.iload_n 1, 1) := by decide +kernel
theorem dX10_refusal_150 : decode cX10_refusal 150 = .ok (.iconst 5, 1) := by decide +kernel
theorem dX10_refusal_151 : decode cX10_refusal 151 = .ok (.invokevirtual 79, 3) := by decide +kernel
theorem dX10_refusal_154 : decode cX10_refusal 154 = .ok (.aload_n 0, 1) := by decide +kernel
theorem dX10_refusal_155 : decode cX10_refusal 155 = .ok (.getfield 7, 3) := by decide +kernel
theorem dX10_refusal_158 : decode cX10_refusal 158 = .ok (.iconst 2, 1) := by decide +kernel
theorem dX10_refusal_159 : decode cX10_refusal 159 = .ok (.iaload, 1) := by decide +kernel
theorem dX10_refusal_160 : decode cX10_refusal 160 = .ok (.iload_n 3, 1) := by decide +kernel
theorem dX10_refusal_161 : decode cX10_refusal 161 = .ok (.imul, 1) := by decide +kernel
theorem dX10_refusal_162 : decode cX10_refusal 162 = .ok (.if_icmp .ge 8, 3) := by decide +kernel
theorem dX10_refusal_165 : decode cX10_refusal 165 = .ok (.bipush 7, 2) := by decide +kernel
theorem dX10_refusal_167 : decode cX10_refusal 167 = .ok (.goto 4, 3) := by decide +kernel
theorem dX10_refusal_170 : decode cX10_refusal 170 = .ok (.iconst 0, 1) := by decide +kernel
theorem dX10_refusal_171 : decode cX10_refusal 171 = .ok (.ireturn, 1) := by decide +kernel
theorem dX10_granted_0 : decode cX10_granted 0 = .ok (.sipush 214, 3) := by decide +kernel
theorem dX10_granted_3 : decode cX10_granted 3 = .ok (.iconst 3, 1) := by decide +kernel
theorem dX10_granted_4 : decode cX10_granted 4 = .ok (.aload_n 0, 1) := by decide +kernel
theorem dX10_granted_5 : decode cX10_granted 5 = .ok (.getfield 7, 3) := by decide +kernel
theorem dX10_granted_8 : decode cX10_granted 8 = .ok (.bipush 11, 2) := by decide +kernel
theorem dX10_granted_10 : decode cX10_granted 10 = .ok (.dup2, 1) := by decide +kernel
theorem dX10_granted_11 : decode cX10_granted 11 = .ok (.iaload, 1) := by decide +kernel
theorem dX10_granted_12 : decode cX10_granted 12 = .ok (.dup_x2, 1) := by decide +kernel
theorem dX10_granted_13 : decode cX10_granted 13 = .ok (.iconst 1, 1) := by decide +kernel
theorem dX10_granted_14 : decode cX10_granted 14 = .ok (.iadd, 1) := by decide +kernel
theorem dX10_granted_15 : decode cX10_granted 15 = .ok (.iastore, 1) := by decide +kernel
theorem dX10_granted_16 : decode cX10_granted 16 = .ok (.imul, 1) := by decide +kernel
theorem dX10_granted_17 : decode cX10_granted 17 = .ok (.iadd, 1) := by decide +kernel
theorem dX10_granted_18 : decode cX10_granted 18 = .ok (.istore 4, 2) := by decide +kernel
theorem dX10_granted_20 : decode cX10_granted 20 = .ok (.aload_n 0, 1) := by decide +kernel
theorem dX10_granted_21 : decode cX10_granted 21 = .ok (.getfield 7, 3) := by decide +kernel
theorem dX10_granted_24 : decode cX10_granted 24 = .ok (.iload 4, 2) := by decide +kernel
theorem dX10_granted_26 : decode cX10_granted 26 = .ok (.iload_n 1, 1) := by decide +kernel
theorem dX10_granted_27 : decode cX10_granted 27 = .ok (.iastore, 1) := by decide +kernel
theorem dX10_granted_28 : decode cX10_granted 28 = .ok (.aload_n 0, 1) := by decide +kernel
theorem dX10_granted_29 : decode cX10_granted 29 = .ok (.getfield 7, 3) := by decide +kernel
theorem dX10_granted_32 : decode cX10_granted 32 = .ok (.iload 4, 2) := by decide +kernel
theorem dX10_granted_34 : decode cX10_granted 34 = .ok (.iconst 1, 1) := by decide +kernel
theorem dX10_granted_35 : decode cX10_granted 35 = .ok (.iadd, 1) := by decide +kernel
theorem dX10_granted_36 : decode cX10_granted 36 = .ok (.iload_n 2, 1) := by decide +kernel
theorem dX10_granted_37 : decode cX10_granted 37 = .ok (.iastore, 1) := by decide +kernel
theorem dX10_granted_38 : decode cX10_granted 38 = .ok (.aload_n 0, 1) := by decide +kernel
theorem dX10_granted_39 : decode cX10_granted 39 = .ok (.getfield 7, 3) := by decide +kernel
theorem dX10_granted_42 : decode cX10_granted 42 = .ok (.iload 4, 2) := by decide +kernel
theorem dX10_granted_44 : decode cX10_granted 44 = .ok (.iconst 2, 1) := by decide +kernel
theorem dX10_granted_45 : decode cX10_granted 45 = .ok (.iadd, 1) := by decide +kernel
theorem dX10_granted_46 : decode cX10_granted 46 = .ok (.iload_n 3, 1) := by decide +kernel
theorem dX10_granted_47 : decode cX10_granted 47 = .ok (.iastore, 1) := by decide +kernel
theorem dX10_granted_48 : decode cX10_granted 48 = .ok (.aload_n 0, 1) := by decide +kernel
theorem dX10_granted_49 : decode cX10_granted 49 = .ok (.getfield 7, 3) := by decide +kernel
theorem dX10_granted_52 : decode cX10_granted 52 = .ok (.bipush 70, 2) := by decide +kernel
theorem dX10_granted_54 : decode cX10_granted 54 = .ok (.bipush 9, 2) := by decide +kernel
theorem dX10_granted_56 : decode cX10_granted 56 = .ok (.iload_n 1, 1) := by decide +kernel
theorem dX10_granted_57 : decode cX10_granted 57 = .ok (.imul, 1) := by decide +kernel
theorem dX10_granted_58 : decode cX10_granted 58 = .ok (.iadd, 1) := by decide +kernel
theorem dX10_granted_59 : decode cX10_granted 59 = .ok (.iconst 5, 1) := by decide +kernel
theorem dX10_granted_60 : decode cX10_granted 60 = .ok (.iadd, 1) := by decide +kernel
theorem dX10_granted_61 : decode cX10_granted 61 = .ok (.dup2, 1) := by decide +kernel
theorem dX10_granted_62 : decode cX10_granted 62 = .ok (.iaload, 1) := by decide +kernel
theorem dX10_granted_63 : decode cX10_granted 63 = .ok (.aload_n 0, 1) := by decide +kernel
theorem dX10_granted_64 : decode cX10_granted 64 = .ok (.getfield 7, 3) := by decide +kernel
theorem dX10_granted_67 : decode cX10_granted 67 = .ok (.iconst 2, 1) := by decide +kernel
theorem dX10_granted_68 : decode cX10_granted 68 = .ok (.iaload, 1) := by decide +kernel
theorem dX10_granted_69 : decode cX10_granted 69 = .ok (.iload_n 3, 1) := by decide +kernel
theorem dX10_granted_70 : decode cX10_granted 70 = .ok (.imul, 1) := by decide +kernel
theorem dX10_granted_71 : decode cX10_granted 71 = .ok (.isub, 1) := by decide +kernel
theorem dX10_granted_72 : decode cX10_granted 72 = .ok (.iastore, 1) := by decide +kernel
theorem dX10_granted_73 : decode cX10_granted 73 = .ok (.aload_n 0, 1) := by decide +kernel
theorem dX10_granted_74 : decode cX10_granted 74 = .ok (.getfield 7, 3) := by decide +kernel
theorem dX10_granted_77 : decode cX10_granted 77 = .ok (.bipush 9, 2) := by decide +kernel
theorem dX10_granted_79 : decode cX10_granted 79 = .ok (.dup2, 1) := by decide +kernel
theorem dX10_granted_80 : decode cX10_granted 80 = .ok (.iaload, 1) := by decide +kernel
theorem dX10_granted_81 : decode cX10_granted 81 = .ok (.aload_n 0, 1) := by decide +kernel
theorem dX10_granted_82 : decode cX10_granted 82 = .ok (.getfield 7, 3) := by decide +kernel
theorem dX10_granted_85 : decode cX10_granted 85 = .ok (.iconst 2, 1) := by decide +kernel
theorem dX10_granted_86 : decode cX10_granted 86 = .ok (.iaload, 1) := by decide +kernel
theorem dX10_granted_87 : decode cX10_granted 87 = .ok (.iload_n 3, 1) := by decide +kernel
theorem dX10_granted_88 : decode cX10_granted 88 = .ok (.imul, 1) := by decide +kernel
theorem dX10_granted_89 : decode cX10_granted 89 = .ok (.iadd, 1) := by decide +kernel
theorem dX10_granted_90 : decode cX10_granted 90 = .ok (.iastore, 1) := by decide +kernel
theorem dX10_granted_91 : decode cX10_granted 91 = .ok (.aload_n 0, 1) := by decide +kernel
theorem dX10_granted_92 : decode cX10_granted 92 = .ok (.getfield 7, 3) := by decide +kernel
theorem dX10_granted_95 : decode cX10_granted 95 = .ok (.bipush 11, 2) := by decide +kernel
theorem dX10_granted_97 : decode cX10_granted 97 = .ok (.iaload, 1) := by decide +kernel
theorem dX10_granted_98 : decode cX10_granted 98 = .ok (.ireturn, 1) := by decide +kernel
theorem dX10_remove_0 : decode cX10_remove 0 = .ok (.aload_n 0, 1) := by decide +kernel
theorem dX10_remove_1 : decode cX10_remove 1 = .ok (.getfield 7, 3) := by decide +kernel
theorem dX10_remove_4 : decode cX10_remove 4 = .ok (.bipush 11, 2) := by decide +kernel
theorem dX10_remove_6 : decode cX10_remove 6 = .ok (.dup2, 1) := by decide +kernel
theorem dX10_remove_7 : decode cX10_remove 7 = .ok (.iaload, 1) := by decide +kernel
theorem dX10_remove_8 : decode cX10_remove 8 = .ok (.iconst 1, 1) := by decide +kernel
theorem dX10_remove_9 : decode cX10_remove 9 = .ok (.isub, 1) := by decide +kernel
theorem dX10_remove_10 : decode cX10_remove 10 = .ok (.iastore, 1) := by decide +kernel
theorem dX10_remove_11 : decode cX10_remove 11 = .ok (.sipush 214, 3) := by decide +kernel
theorem dX10_remove_14 : decode cX10_remove 14 = .ok (.iconst 3, 1) := by decide +kernel
theorem dX10_remove_15 : decode cX10_remove 15 = .ok (.iload_n 1, 1) := by decide +kernel
theorem dX10_remove_16 : decode cX10_remove 16 = .ok (.imul, 1) := by decide +kernel
theorem dX10_remove_17 : decode cX10_remove 17 = .ok (.iadd, 1) := by decide +kernel
theorem dX10_remove_18 : decode cX10_remove 18 = .ok (.istore_n 2, 1) := by decide +kernel
theorem dX10_remove_19 : decode cX10_remove 19 = .ok (.iload_n 2, 1) := by decide +kernel
theorem dX10_remove_20 : decode cX10_remove 20 = .ok (.sipush 214, 3) := by decide +kernel
theorem dX10_remove_23 : decode cX10_remove 23 = .ok (.iconst 3, 1) := by decide +kernel
theorem dX10_remove_24 : decode cX10_remove 24 = .ok (.aload_n 0, 1) := by decide +kernel
theorem dX10_remove_25 : decode cX10_remove 25 = .ok (.getfield 7, 3) := by decide +kernel
theorem dX10_remove_28 : decode cX10_remove 28 = .ok (.bipush 11, 2) := by decide +kernel
theorem dX10_remove_30 : decode cX10_remove 30 = .ok (.iaload, 1) := by decide +kernel
theorem dX10_remove_31 : decode cX10_remove 31 = .ok (.imul, 1) := by decide +kernel
theorem dX10_remove_32 : decode cX10_remove 32 = .ok (.iadd, 1) := by decide +kernel
theorem dX10_remove_33 : decode cX10_remove 33 = .ok (.if_icmp .ge 23, 3) := by decide +kernel
theorem dX10_remove_36 : decode cX10_remove 36 = .ok (.aload_n 0, 1) := by decide +kernel
theorem dX10_remove_37 : decode cX10_remove 37 = .ok (.getfield 7, 3) := by decide +kernel
theorem dX10_remove_40 : decode cX10_remove 40 = .ok (.iload_n 2, 1) := by decide +kernel
theorem dX10_remove_41 : decode cX10_remove 41 = .ok (.aload_n 0, 1) := by decide +kernel
theorem dX10_remove_42 : decode cX10_remove 42 = .ok (.getfield 7, 3) := by decide +kernel
theorem dX10_remove_45 : decode cX10_remove 45 = .ok (.iload_n 2, 1) := by decide +kernel
theorem dX10_remove_46 : decode cX10_remove 46 = .ok (.iconst 3, 1) := by decide +kernel
theorem dX10_remove_47 : decode cX10_remove 47 = .ok (.iadd, 1) := by decide +kernel
theorem dX10_remove_48 : decode cX10_remove 48 = .ok (.iaload, 1) := by decide +kernel
theorem dX10_remove_49 : decode cX10_remove 49 = .ok (.iastore, 1) := by decide +kernel
theorem dX10_remove_50 : decode cX10_remove 50 = .ok (.iinc 2 1, 3) := by decide +kernel
theorem dX10_remove_53 : decode cX10_remove 53 = .ok (.goto (-34), 3) := by decide +kernel
theorem dX10_remove_56 : decode cX10_remove 56 = .ok (.return_, 1) := by decide +kernel
theorem dX10_cancelled_0 : decode cX10_cancelled 0 = .ok (.iconst 0, 1) := by decide +kernel
theorem dX10_cancelled_1 : decode cX10_cancelled 1 = .ok (.istore_n 2, 1) := by decide +kernel
theorem dX10_cancelled_2 : decode cX10_cancelled 2 = .ok (.iconst 0, 1) := by decide +kernel
theorem dX10_cancelled_3 : decode cX10_cancelled 3 = .ok (.istore_n 3, 1) := by decide +kernel
theorem dX10_cancelled_4 : decode cX10_cancelled 4 = .ok (.iload_n 3, 1) := by decide +kernel
theorem dX10_cancelled_5 : decode cX10_cancelled 5 = .ok (.aload_n 0, 1) := by decide +kernel
theorem dX10_cancelled_6 : decode cX10_cancelled 6 = .ok (.getfield 7, 3) := by decide +kernel
theorem dX10_cancelled_9 : decode cX10_cancelled 9 = .ok (.bipush 11, 2) := by decide +kernel
theorem dX10_cancelled_11 : decode cX10_cancelled 11 = .ok (.iaload, 1) := by decide +kernel
theorem dX10_cancelled_12 : decode cX10_cancelled 12 = .ok (.if_icmp .ge 36, 3) := by decide +kernel
theorem dX10_cancelled_15 : decode cX10_cancelled 15 = .ok (.aload_n 0, 1) := by decide +kernel
theorem dX10_cancelled_16 : decode cX10_cancelled 16 = .ok (.getfield 7, 3) := by decide +kernel
theorem dX10_cancelled_19 : decode cX10_cancelled 19 = .ok (.sipush 214, 3) := by decide +kernel
theorem dX10_cancelled_22 : decode cX10_cancelled 22 = .ok (.iconst 3, 1) := by decide +kernel
theorem dX10_cancelled_23 : decode cX10_cancelled 23 = .ok (.iload_n 3, 1) := by decide +kernel
theorem dX10_cancelled_24 : decode cX10_cancelled 24 = .ok (.imul, 1) := by decide +kernel
theorem dX10_cancelled_25 : decode cX10_cancelled 25 = .ok (.iadd, 1) := by decide +kernel
theorem dX10_cancelled_26 : decode cX10_cancelled 26 = .ok (.iaload, 1) := by decide +kernel
theorem dX10_cancelled_27 : decode cX10_cancelled 27 = .ok (.iload_n 1, 1) := by decide +kernel
theorem dX10_cancelled_28 : decode cX10_cancelled 28 = .ok (.if_icmp .ne 14, 3) := by decide +kernel
theorem dX10_cancelled_31 : decode cX10_cancelled 31 = .ok (.aload_n 0, 1) := by decide +kernel
theorem dX10_cancelled_32 : decode cX10_cancelled 32 = .ok (.iload_n 3, 1) := by decide +kernel
theorem dX10_cancelled_33 : decode cX10_cancelled 33 = .ok (.invokevirtual 156, 3) := by decide +kernel
theorem dX10_cancelled_36 : decode cX10_cancelled 36 = .ok (.iinc 2 1, 3) := by decide +kernel
theorem dX10_cancelled_39 : decode cX10_cancelled 39 = .ok (.goto (-35), 3) := by decide +kernel
theorem dX10_cancelled_42 : decode cX10_cancelled 42 = .ok (.iinc 3 1, 3) := by decide +kernel
theorem dX10_cancelled_45 : decode cX10_cancelled 45 = .ok (.goto (-41), 3) := by decide +kernel
theorem dX10_cancelled_48 : decode cX10_cancelled 48 = .ok (.iload_n 2, 1) := by decide +kernel
theorem dX10_cancelled_49 : decode cX10_cancelled 49 = .ok (.ireturn, 1) := by decide +kernel
theorem dX10_canLaunch_0 : decode cX10_canLaunch 0 = .ok (.aload_n 0, 1) := by decide +kernel
theorem dX10_canLaunch_1 : decode cX10_canLaunch 1 = .ok (.iload_n 1, 1) := by decide +kernel
theorem dX10_canLaunch_2 : decode cX10_canLaunch 2 = .ok (.bipush 6, 2) := by decide +kernel
theorem dX10_canLaunch_4 : decode cX10_canLaunch 4 = .ok (.invokevirtual 79, 3) := by decide +kernel
theorem dX10_canLaunch_7 : decode cX10_canLaunch 7 = .ok (.ifCond .ne 22, 3) := by decide +kernel
theorem dX10_canLaunch_10 : decode cX10_canLaunch 10 = .ok (.aload_n 0, 1) := by decide +kernel
theorem dX10_canLaunch_11 : decode cX10_canLaunch 11 = .ok (.iload_n 1, 1) := by decide +kernel
theorem dX10_canLaunch_12 : decode cX10_canLaunch 12 = .ok (.aload_n 0, 1) := by decide +kernel
theorem dX10_canLaunch_13 : decode cX10_canLaunch 13 = .ok (.getfield 7, 3) := by decide +kernel
theorem dX10_canLaunch_16 : decode cX10_canLaunch 16 = .ok (.bipush 7, 2) := by decide +kernel
theorem dX10_canLaunch_18 : decode cX10_canLaunch 18 = .ok (.iaload, 1) := by decide +kernel
theorem dX10_canLaunch_19 : decode cX10_canLaunch 19 = .ok (.invokevirtual 150, 3) := by decide +kernel
theorem dX10_canLaunch_22 : decode cX10_canLaunch 22 = .ok (.ifCond .eq 7, 3) := by decide +kernel
theorem dX10_canLaunch_25 : decode cX10_canLaunch 25 = .ok (.iconst 1, 1) := by decide +kernel
theorem dX10_canLaunch_26 : decode cX10_canLaunch 26 = .ok (.goto 4, 3) := by decide +kernel
theorem dX10_canLaunch_29 : decode cX10_canLaunch 29 = .ok (.iconst 0, 1) := by decide +kernel
theorem dX10_canLaunch_30 : decode cX10_canLaunch 30 = .ok (.ireturn, 1) := by decide +kernel
theorem dX10_launched_0 : decode cX10_launched 0 = .ok (.aload_n 0, 1) := by decide +kernel
theorem dX10_launched_1 : decode cX10_launched 1 = .ok (.getfield 7, 3) := by decide +kernel
theorem dX10_launched_4 : decode cX10_launched 4 = .ok (.bipush 70, 2) := by decide +kernel
theorem dX10_launched_6 : decode cX10_launched 6 = .ok (.bipush 9, 2) := by decide +kernel
theorem dX10_launched_8 : decode cX10_launched 8 = .ok (.iload_n 1, 1) := by decide +kernel
theorem dX10_launched_9 : decode cX10_launched 9 = .ok (.imul, 1) := by decide +kernel
theorem dX10_launched_10 : decode cX10_launched 10 = .ok (.iadd, 1) := by decide +kernel
theorem dX10_launched_11 : decode cX10_launched 11 = .ok (.bipush 6, 2) := by decide +kernel
theorem dX10_launched_13 : decode cX10_launched 13 = .ok (.iadd, 1) := by decide +kernel
theorem dX10_launched_14 : decode cX10_launched 14 = .ok (.iconst 1, 1) := by decide +kernel
theorem dX10_launched_15 : decode cX10_launched 15 = .ok (.iastore, 1) := by decide +kernel
theorem dX10_launched_16 : decode cX10_launched 16 = .ok (.aload_n 0, 1) := by decide +kernel
theorem dX10_launched_17 : decode cX10_launched 17 = .ok (.getfield 7, 3) := by decide +kernel
theorem dX10_launched_20 : decode cX10_launched 20 = .ok (.bipush 70, 2) := by decide +kernel
theorem dX10_launched_22 : decode cX10_launched 22 = .ok (.bipush 9, 2) := by decide +kernel
theorem dX10_launched_24 : decode cX10_launched 24 = .ok (.iload_n 1, 1) := by decide +kernel
theorem dX10_launched_25 : decode cX10_launched 25 = .ok (.imul, 1) := by decide +kernel
theorem dX10_launched_26 : decode cX10_launched 26 = .ok (.iadd, 1) := by decide +kernel
theorem dX10_launched_27 : decode cX10_launched 27 = .ok (.bipush 8, 2) := by decide +kernel
theorem dX10_launched_29 : decode cX10_launched 29 = .ok (.iadd, 1) := by decide +kernel
theorem dX10_launched_30 : decode cX10_launched 30 = .ok (.aload_n 0, 1) := by decide +kernel
theorem dX10_launched_31 : decode cX10_launched 31 = .ok (.getfield 7, 3) := by decide +kernel
theorem dX10_launched_34 : decode cX10_launched 34 = .ok (.bipush 8, 2) := by decide +kernel
theorem dX10_launched_36 : decode cX10_launched 36 = .ok (.dup2, 1) := by decide +kernel
theorem dX10_launched_37 : decode cX10_launched 37 = .ok (.iaload, 1) := by decide +kernel
theorem dX10_launched_38 : decode cX10_launched 38 = .ok (.iconst 1, 1) := by decide +kernel
theorem dX10_launched_39 : decode cX10_launched 39 = .ok (.iadd, 1) := by decide +kernel
theorem dX10_launched_40 : decode cX10_launched 40 = .ok (.dup_x2, 1) := by decide +kernel
theorem dX10_launched_41 : decode cX10_launched 41 = .ok (.iastore, 1) := by decide +kernel
theorem dX10_launched_42 : decode cX10_launched 42 = .ok (.iastore, 1) := by decide +kernel
theorem dX10_launched_43 : decode cX10_launched 43 = .ok (.aload_n 0, 1) := by decide +kernel
theorem dX10_launched_44 : decode cX10_launched 44 = .ok (.iload_n 1, 1) := by decide +kernel
theorem dX10_launched_45 : decode cX10_launched 45 = .ok (.aload_n 0, 1) := by decide +kernel
theorem dX10_launched_46 : decode cX10_launched 46 = .ok (.getfield 7, 3) := by decide +kernel
theorem dX10_launched_49 : decode cX10_launched 49 = .ok (.bipush 7, 2) := by decide +kernel
theorem dX10_launched_51 : decode cX10_launched 51 = .ok (.iaload, 1) := by decide +kernel
theorem dX10_launched_52 : decode cX10_launched 52 = .ok (.invokevirtual 106, 3) := by decide +kernel
theorem dX10_launched_55 : decode cX10_launched 55 = .ok (.ireturn, 1) := by decide +kernel
theorem dX10_count_0 : decode cX10_count 0 = .ok (.iconst 0, 1) := by decide +kernel
theorem dX10_count_1 : decode cX10_count 1 = .ok (.istore_n 2, 1) := by decide +kernel
theorem dX10_count_2 : decode cX10_count 2 = .ok (.iconst 0, 1) := by decide +kernel
theorem dX10_count_3 : decode cX10_count 3 = .ok (.istore_n 3, 1) := by decide +kernel
theorem dX10_count_4 : decode cX10_count 4 = .ok (.iload_n 3, 1) := by decide +kernel
theorem dX10_count_5 : decode cX10_count 5 = .ok (.aload_n 0, 1) := by decide +kernel
theorem dX10_count_6 : decode cX10_count 6 = .ok (.getfield 7, 3) := by decide +kernel
theorem dX10_count_9 : decode cX10_count 9 = .ok (.bipush 6, 2) := by decide +kernel
theorem dX10_count_11 : decode cX10_count 11 = .ok (.iaload, 1) := by decide +kernel
theorem dX10_count_12 : decode cX10_count 12 = .ok (.if_icmp .ge 23, 3) := by decide +kernel
theorem dX10_count_15 : decode cX10_count 15 = .ok (.aload_n 0, 1) := by decide +kernel
theorem dX10_count_16 : decode cX10_count 16 = .ok (.iload_n 3, 1) := by decide +kernel
theorem dX10_count_17 : decode cX10_count 17 = .ok (.bipush 6, 2) := by decide +kernel
theorem dX10_count_19 : decode cX10_count 19 = .ok (.invokevirtual 79, 3) := by decide +kernel
theorem dX10_count_22 : decode cX10_count 22 = .ok (.iload_n 1, 1) := by decide +kernel
theorem dX10_count_23 : decode cX10_count 23 = .ok (.if_icmp .ne 6, 3) := by decide +kernel
theorem dX10_count_26 : decode cX10_count 26 = .ok (.iinc 2 1, 3) := by decide +kernel
theorem dX10_count_29 : decode cX10_count 29 = .ok (.iinc 3 1, 3) := by decide +kernel
theorem dX10_count_32 : decode cX10_count 32 = .ok (.goto (-28), 3) := by decide +kernel
theorem dX10_count_35 : decode cX10_count 35 = .ok (.iload_n 2, 1) := by decide +kernel
theorem dX10_count_36 : decode cX10_count 36 = .ok (.ireturn, 1) := by decide +kernel
theorem dX10_landed_0 : decode cX10_landed 0 = .ok (.aload_n 0, 1) := by decide +kernel
theorem dX10_landed_1 : decode cX10_landed 1 = .ok (.getfield 7, 3) := by decide +kernel
theorem dX10_landed_4 : decode cX10_landed 4 = .ok (.bipush 70, 2) := by decide +kernel
theorem dX10_landed_6 : decode cX10_landed 6 = .ok (.bipush 9, 2) := by decide +kernel
theorem dX10_landed_8 : decode cX10_landed 8 = .ok (.iload_n 1, 1) := by decide +kernel
theorem dX10_landed_9 : decode cX10_landed 9 = .ok (.imul, 1) := by decide +kernel
theorem dX10_landed_10 : decode cX10_landed 10 = .ok (.iadd, 1) := by decide +kernel
theorem dX10_landed_11 : decode cX10_landed 11 = .ok (.bipush 6, 2) := by decide +kernel
theorem dX10_landed_13 : decode cX10_landed 13 = .ok (.iadd, 1) := by decide +kernel
theorem dX10_landed_14 : decode cX10_landed 14 = .ok (.iconst 0, 1) := by decide +kernel
theorem dX10_landed_15 : decode cX10_landed 15 = .ok (.iastore, 1) := by decide +kernel
theorem dX10_landed_16 : decode cX10_landed 16 = .ok (.aload_n 0, 1) := by decide +kernel
theorem dX10_landed_17 : decode cX10_landed 17 = .ok (.iconst 1, 1) := by decide +kernel
theorem dX10_landed_18 : decode cX10_landed 18 = .ok (.invokevirtual 159, 3) := by decide +kernel
theorem dX10_landed_21 : decode cX10_landed 21 = .ok (.ireturn, 1) := by decide +kernel
theorem dX10_guilty_0 : decode cX10_guilty 0 = .ok (.aload_n 0, 1) := by decide +kernel
theorem dX10_guilty_1 : decode cX10_guilty 1 = .ok (.iload_n 1, 1) := by decide +kernel
theorem dX10_guilty_2 : decode cX10_guilty 2 = .ok (.aload_n 0, 1) := by decide +kernel
theorem dX10_guilty_3 : decode cX10_guilty 3 = .ok (.getfield 7, 3) := by decide +kernel
theorem dX10_guilty_6 : decode cX10_guilty 6 = .ok (.bipush 7, 2) := by decide +kernel
theorem dX10_guilty_8 : decode cX10_guilty 8 = .ok (.iaload, 1) := by decide +kernel
theorem dX10_guilty_9 : decode cX10_guilty 9 = .ok (.invokevirtual 138, 3) := by decide +kernel
theorem dX10_guilty_12 : decode cX10_guilty 12 = .ok (.istore_n 3, 1) := by decide +kernel
theorem dX10_guilty_13 : decode cX10_guilty 13 = .ok (.aload_n 0, 1) := by decide +kernel
theorem dX10_guilty_14 : decode cX10_guilty 14 = .ok (.iload_n 2, 1) := by decide +kernel
theorem dX10_guilty_15 : decode cX10_guilty 15 = .ok (.aload_n 0, 1) := by decide +kernel
theorem dX10_guilty_16 : decode cX10_guilty 16 = .ok (.getfield 7, 3) := by decide +kernel
theorem dX10_guilty_19 : decode cX10_guilty 19 = .ok (.bipush 7, 2) := by decide +kernel
theorem dX10_guilty_21 : decode cX10_guilty 21 = .ok (.iaload, 1) := by decide +kernel
theorem dX10_guilty_22 : decode cX10_guilty 22 = .ok (.invokevirtual 138, 3) := by decide +kernel
theorem dX10_guilty_25 : decode cX10_guilty 25 = .ok (.istore 4, 2) := by decide +kernel
theorem dX10_guilty_27 : decode cX10_guilty 27 = .ok (.iload_n 3, 1) := by decide +kernel
theorem dX10_guilty_28 : decode cX10_guilty 28 = .ok (.iload 4, 2) := by decide +kernel
theorem dX10_guilty_30 : decode cX10_guilty 30 = .ok (.if_icmp .eq 13, 3) := by decide +kernel
theorem dX10_guilty_33 : decode cX10_guilty 33 = .ok (.iload_n 3, 1) := by decide +kernel
theorem dX10_guilty_34 : decode cX10_guilty 34 = .ok (.ifCond .eq 7, 3) := by decide +kernel
theorem dX10_guilty_37 : decode cX10_guilty 37 = .ok (.iload_n 2, 1) := by decide +kernel
theorem dX10_guilty_38 : decode cX10_guilty 38 = .ok (.goto 4, 3) := by decide +kernel
theorem dX10_guilty_41 : decode cX10_guilty 41 = .ok (.iload_n 1, 1) := by decide +kernel
theorem dX10_guilty_42 : decode cX10_guilty 42 = .ok (.ireturn, 1) := by decide +kernel
theorem dX10_guilty_43 : decode cX10_guilty 43 = .ok (.aload_n 0, 1) := by decide +kernel
theorem dX10_guilty_44 : decode cX10_guilty 44 = .ok (.iload_n 1, 1) := by decide +kernel
theorem dX10_guilty_45 : decode cX10_guilty 45 = .ok (.bipush 8, 2) := by decide +kernel
theorem dX10_guilty_47 : decode cX10_guilty 47 = .ok (.invokevirtual 79, 3) := by decide +kernel
theorem dX10_guilty_50 : decode cX10_guilty 50 = .ok (.aload_n 0, 1) := by decide +kernel
theorem dX10_guilty_51 : decode cX10_guilty 51 = .ok (.iload_n 2, 1) := by decide +kernel
theorem dX10_guilty_52 : decode cX10_guilty 52 = .ok (.bipush 8, 2) := by decide +kernel
theorem dX10_guilty_54 : decode cX10_guilty 54 = .ok (.invokevirtual 79, 3) := by decide +kernel
theorem dX10_guilty_57 : decode cX10_guilty 57 = .ok (.if_icmp .le 7, 3) := by decide +kernel
theorem dX10_guilty_60 : decode cX10_guilty 60 = .ok (.iload_n 1, 1) := by decide +kernel
theorem dX10_guilty_61 : decode cX10_guilty 61 = .ok (.goto 4, 3) := by decide +kernel
theorem dX10_guilty_64 : decode cX10_guilty 64 = .ok (.iload_n 2, 1) := by decide +kernel
theorem dX10_guilty_65 : decode cX10_guilty 65 = .ok (.ireturn, 1) := by decide +kernel
theorem dX10_verdict_0 : decode cX10_verdict 0 = .ok (.aload_n 0, 1) := by decide +kernel
theorem dX10_verdict_1 : decode cX10_verdict 1 = .ok (.iload_n 1, 1) := by decide +kernel
theorem dX10_verdict_2 : decode cX10_verdict 2 = .ok (.iload_n 2, 1) := by decide +kernel
theorem dX10_verdict_3 : decode cX10_verdict 3 = .ok (.invokevirtual 162, 3) := by decide +kernel
theorem dX10_verdict_6 : decode cX10_verdict 6 = .ok (.istore_n 3, 1) := by decide +kernel
theorem dX10_verdict_7 : decode cX10_verdict 7 = .ok (.iload_n 3, 1) := by decide +kernel
theorem dX10_verdict_8 : decode cX10_verdict 8 = .ok (.iload_n 1, 1) := by decide +kernel
theorem dX10_verdict_9 : decode cX10_verdict 9 = .ok (.if_icmp .ne 7, 3) := by decide +kernel
theorem dX10_verdict_12 : decode cX10_verdict 12 = .ok (.iload_n 2, 1) := by decide +kernel
theorem dX10_verdict_13 : decode cX10_verdict 13 = .ok (.goto 4, 3) := by decide +kernel
theorem dX10_verdict_16 : decode cX10_verdict 16 = .ok (.iload_n 1, 1) := by decide +kernel
theorem dX10_verdict_17 : decode cX10_verdict 17 = .ok (.istore 4, 2) := by decide +kernel
theorem dX10_verdict_19 : decode cX10_verdict 19 = .ok (.aload_n 0, 1) := by decide +kernel
theorem dX10_verdict_20 : decode cX10_verdict 20 = .ok (.getfield 7, 3) := by decide +kernel
theorem dX10_verdict_23 : decode cX10_verdict 23 = .ok (.iconst 3, 1) := by decide +kernel
theorem dX10_verdict_24 : decode cX10_verdict 24 = .ok (.iaload, 1) := by decide +kernel
theorem dX10_verdict_25 : decode cX10_verdict 25 = .ok (.aload_n 0, 1) := by decide +kernel
theorem dX10_verdict_26 : decode cX10_verdict 26 = .ok (.iload_n 3, 1) := by decide +kernel
theorem dX10_verdict_27 : decode cX10_verdict 27 = .ok (.iconst 5, 1) := by decide +kernel
theorem dX10_verdict_28 : decode cX10_verdict 28 = .ok (.invokevirtual 79, 3) := by decide +kernel
theorem dX10_verdict_31 : decode cX10_verdict 31 = .ok (.invokestatic 90, 3) := by decide +kernel
theorem dX10_verdict_34 : decode cX10_verdict 34 = .ok (.istore 5, 2) := by decide +kernel
theorem dX10_verdict_36 : decode cX10_verdict 36 = .ok (.aload_n 0, 1) := by decide +kernel
theorem dX10_verdict_37 : decode cX10_verdict 37 = .ok (.getfield 7, 3) := by decide +kernel
theorem dX10_verdict_40 : decode cX10_verdict 40 = .ok (.bipush 70, 2) := by decide +kernel
theorem dX10_verdict_42 : decode cX10_verdict 42 = .ok (.bipush 9, 2) := by decide +kernel
theorem dX10_verdict_44 : decode cX10_verdict 44 = .ok (.iload_n 3, 1) := by decide +kernel
theorem dX10_verdict_45 : decode cX10_verdict 45 = .ok (.imul, 1) := by decide +kernel
theorem dX10_verdict_46 : decode cX10_verdict 46 = .ok (.iadd, 1) := by decide +kernel
theorem dX10_verdict_47 : decode cX10_verdict 47 = .ok (.iconst 5, 1) := by decide +kernel
theorem dX10_verdict_48 : decode cX10_verdict 48 = .ok (.iadd, 1) := by decide +kernel
theorem dX10_verdict_49 : decode cX10_verdict 49 = .ok (.dup2, 1) := by decide +kernel
theorem dX10_verdict_50 : decode cX10_verdict 50 = .ok (.iaload, 1) := by decide +kernel
theorem dX10_verdict_51 : decode cX10_verdict 51 = .ok (.iload 5, 2) := by decide +kernel
theorem dX10_verdict_53 : decode cX10_verdict 53 = .ok (.isub, 1) := by decide +kernel
theorem dX10_verdict_54 : decode cX10_verdict 54 = .ok (.iastore, 1) := by decide +kernel
theorem dX10_verdict_55 : decode cX10_verdict 55 = .ok (.aload_n 0, 1) := by decide +kernel
theorem dX10_verdict_56 : decode cX10_verdict 56 = .ok (.getfield 7, 3) := by decide +kernel
theorem dX10_verdict_59 : decode cX10_verdict 59 = .ok (.bipush 70, 2) := by decide +kernel
theorem dX10_verdict_61 : decode cX10_verdict 61 = .ok (.bipush 9, 2) := by decide +kernel
theorem dX10_verdict_63 : decode cX10_verdict 63 = .ok (.iload 4, 2) := by decide +kernel
theorem dX10_verdict_65 : decode cX10_verdict 65 = .ok (.imul, 1) := by decide +kernel
theorem dX10_verdict_66 : decode cX10_verdict 66 = .ok (.iadd, 1) := by decide +kernel
theorem dX10_verdict_67 : decode cX10_verdict 67 = .ok (.iconst 5, 1) := by decide +kernel
theorem dX10_verdict_68 : decode cX10_verdict 68 = .ok (.iadd, 1) := by decide +kernel
theorem dX10_verdict_69 : decode cX10_verdict 69 = .ok (.dup2, 1) := by decide +kernel
theorem dX10_verdict_70 : decode cX10_verdict 70 = .ok (.iaload, 1) := by decide +kernel
theorem dX10_verdict_71 : decode cX10_verdict 71 = .ok (.iload 5, 2) := by decide +kernel
theorem dX10_verdict_73 : decode cX10_verdict 73 = .ok (.iadd, 1) := by decide +kernel
theorem dX10_verdict_74 : decode cX10_verdict 74 = .ok (.iastore, 1) := by decide +kernel
theorem dX10_verdict_75 : decode cX10_verdict 75 = .ok (.aload_n 0, 1) := by decide +kernel
theorem dX10_verdict_76 : decode cX10_verdict 76 = .ok (.getfield 7, 3) := by decide +kernel
theorem dX10_verdict_79 : decode cX10_verdict 79 = .ok (.bipush 70, 2) := by decide +kernel
theorem dX10_verdict_81 : decode cX10_verdict 81 = .ok (.bipush 9, 2) := by decide +kernel
theorem dX10_verdict_83 : decode cX10_verdict 83 = .ok (.iload_n 1, 1) := by decide +kernel
theorem dX10_verdict_84 : decode cX10_verdict 84 = .ok (.imul, 1) := by decide +kernel
theorem dX10_verdict_85 : decode cX10_verdict 85 = .ok (.iadd, 1) := by decide +kernel
theorem dX10_verdict_86 : decode cX10_verdict 86 = .ok (.bipush 7, 2) := by decide +kernel
theorem dX10_verdict_88 : decode cX10_verdict 88 = .ok (.iadd, 1) := by decide +kernel
theorem dX10_verdict_89 : decode cX10_verdict 89 = .ok (.dup2, 1) := by decide +kernel
theorem dX10_verdict_90 : decode cX10_verdict 90 = .ok (.iaload, 1) := by decide +kernel
theorem dX10_verdict_91 : decode cX10_verdict 91 = .ok (.iconst 1, 1) := by decide +kernel
theorem dX10_verdict_92 : decode cX10_verdict 92 = .ok (.iadd, 1) := by decide +kernel
theorem dX10_verdict_93 : decode cX10_verdict 93 = .ok (.iastore, 1) := by decide +kernel
theorem dX10_verdict_94 : decode cX10_verdict 94 = .ok (.aload_n 0, 1) := by decide +kernel
theorem dX10_verdict_95 : decode cX10_verdict 95 = .ok (.getfield 7, 3) := by decide +kernel
theorem dX10_verdict_98 : decode cX10_verdict 98 = .ok (.bipush 70, 2) := by decide +kernel
theorem dX10_verdict_100 : decode cX10_verdict 100 = .ok (.bipush 9, 2) := by decide +kernel
theorem dX10_verdict_102 : decode cX10_verdict 102 = .ok (.iload_n 2, 1) := by decide +kernel
theorem dX10_verdict_103 : decode cX10_verdict 103 = .ok (.imul, 1) := by decide +kernel
theorem dX10_verdict_104 : decode cX10_verdict 104 = .ok (.iadd, 1) := by decide +kernel
theorem dX10_verdict_105 : decode cX10_verdict 105 = .ok (.bipush 7, 2) := by decide +kernel
theorem dX10_verdict_107 : decode cX10_verdict 107 = .ok (.iadd, 1) := by decide +kernel
theorem dX10_verdict_108 : decode cX10_verdict 108 = .ok (.dup2, 1) := by decide +kernel
theorem dX10_verdict_109 : decode cX10_verdict 109 = .ok (.iaload, 1) := by decide +kernel
theorem dX10_verdict_110 : decode cX10_verdict 110 = .ok (.iconst 1, 1) := by decide +kernel
theorem dX10_verdict_111 : decode cX10_verdict 111 = .ok (.iadd, 1) := by decide +kernel
theorem dX10_verdict_112 : decode cX10_verdict 112 = .ok (.iastore, 1) := by decide +kernel
theorem dX10_verdict_113 : decode cX10_verdict 113 = .ok (.aload_n 0, 1) := by decide +kernel
theorem dX10_verdict_114 : decode cX10_verdict 114 = .ok (.getfield 37, 3) := by decide +kernel
theorem dX10_verdict_117 : decode cX10_verdict 117 = .ok (.iload_n 1, 1) := by decide +kernel
theorem dX10_verdict_118 : decode cX10_verdict 118 = .ok (.iconst 1, 1) := by decide +kernel
theorem dX10_verdict_119 : decode cX10_verdict 119 = .ok (.bastore, 1) := by decide +kernel
theorem dX10_verdict_120 : decode cX10_verdict 120 = .ok (.aload_n 0, 1) := by decide +kernel
theorem dX10_verdict_121 : decode cX10_verdict 121 = .ok (.getfield 37, 3) := by decide +kernel
theorem dX10_verdict_124 : decode cX10_verdict 124 = .ok (.iload_n 2, 1) := by decide +kernel
theorem dX10_verdict_125 : decode cX10_verdict 125 = .ok (.iconst 1, 1) := by decide +kernel
theorem dX10_verdict_126 : decode cX10_verdict 126 = .ok (.bastore, 1) := by decide +kernel
theorem dX10_verdict_127 : decode cX10_verdict 127 = .ok (.return_, 1) := by decide +kernel
theorem dX10_pass_0 : decode cX10_pass 0 = .ok (.iconst 0, 1) := by decide +kernel
theorem dX10_pass_1 : decode cX10_pass 1 = .ok (.istore_n 1, 1) := by decide +kernel
theorem dX10_pass_2 : decode cX10_pass 2 = .ok (.iconst 0, 1) := by decide +kernel
theorem dX10_pass_3 : decode cX10_pass 3 = .ok (.istore_n 2, 1) := by decide +kernel
theorem dX10_pass_4 : decode cX10_pass 4 = .ok (.aload_n 0, 1) := by decide +kernel
theorem dX10_pass_5 : decode cX10_pass 5 = .ok (.getfield 7, 3) := by decide +kernel
theorem dX10_pass_8 : decode cX10_pass 8 = .ok (.bipush 7, 2) := by decide +kernel
theorem dX10_pass_10 : decode cX10_pass 10 = .ok (.dup2, 1) := by decide +kernel
theorem dX10_pass_11 : decode cX10_pass 11 = .ok (.iaload, 1) := by decide +kernel
theorem dX10_pass_12 : decode cX10_pass 12 = .ok (.iconst 1, 1) := by decide +kernel
theorem dX10_pass_13 : decode cX10_pass 13 = .ok (.iadd, 1) := by decide +kernel
theorem dX10_pass_14 : decode cX10_pass 14 = .ok (.iastore, 1) := by decide +kernel
theorem dX10_pass_15 : decode cX10_pass 15 = .ok (.iload_n 2, 1) := by decide +kernel
theorem dX10_pass_16 : decode cX10_pass 16 = .ok (.aload_n 0, 1) := by decide +kernel
theorem dX10_pass_17 : decode cX10_pass 17 = .ok (.getfield 7, 3) := by decide +kernel
theorem dX10_pass_20 : decode cX10_pass 20 = .ok (.bipush 11, 2) := by decide +kernel
theorem dX10_pass_22 : decode cX10_pass 22 = .ok (.iaload, 1) := by decide +kernel
theorem dX10_pass_23 : decode cX10_pass 23 = .ok (.if_icmp .ge 56, 3) := by decide +kernel
theorem dX10_pass_26 : decode cX10_pass 26 = .ok (.aload_n 0, 1) := by decide +kernel
theorem dX10_pass_27 : decode cX10_pass 27 = .ok (.getfield 7, 3) := by decide +kernel
theorem dX10_pass_30 : decode cX10_pass 30 = .ok (.sipush 214, 3) := by decide +kernel
theorem dX10_pass_33 : decode cX10_pass 33 = .ok (.iconst 3, 1) := by decide +kernel
theorem dX10_pass_34 : decode cX10_pass 34 = .ok (.iload_n 2, 1) := by decide +kernel
theorem dX10_pass_35 : decode cX10_pass 35 = .ok (.imul, 1) := by decide +kernel
theorem dX10_pass_36 : decode cX10_pass 36 = .ok (.iadd, 1) := by decide +kernel
theorem dX10_pass_37 : decode cX10_pass 37 = .ok (.iconst 1, 1) := by decide +kernel
theorem dX10_pass_38 : decode cX10_pass 38 = .ok (.iadd, 1) := by decide +kernel
theorem dX10_pass_39 : decode cX10_pass 39 = .ok (.iaload, 1) := by decide +kernel
theorem dX10_pass_40 : decode cX10_pass 40 = .ok (.aload_n 0, 1) := by decide +kernel
theorem dX10_pass_41 : decode cX10_pass 41 = .ok (.getfield 7, 3) := by decide +kernel
theorem dX10_pass_44 : decode cX10_pass 44 = .ok (.sipush 214, 3) := by decide +kernel
theorem dX10_pass_47 : decode cX10_pass 47 = .ok (.iconst 3, 1) := by decide +kernel
theorem dX10_pass_48 : decode cX10_pass 48 = .ok (.iload_n 2, 1) := by decide +kernel
theorem dX10_pass_49 : decode cX10_pass 49 = .ok (.imul, 1) := by decide +kernel
theorem dX10_pass_50 : decode cX10_pass 50 = .ok (.iadd, 1) := by decide +kernel
theorem dX10_pass_51 : decode cX10_pass 51 = .ok (.iconst 2, 1) := by decide +kernel
theorem dX10_pass_52 : decode cX10_pass 52 = .ok (.iadd, 1) := by decide +kernel
theorem dX10_pass_53 : decode cX10_pass 53 = .ok (.iaload, 1) := by decide +kernel
theorem dX10_pass_54 : decode cX10_pass 54 = .ok (.iadd, 1) := by decide +kernel
theorem dX10_pass_55 : decode cX10_pass 55 = .ok (.aload_n 0, 1) := by decide +kernel
theorem dX10_pass_56 : decode cX10_pass 56 = .ok (.getfield 7, 3) := by decide +kernel
theorem dX10_pass_59 : decode cX10_pass 59 = .ok (.bipush 7, 2) := by decide +kernel
theorem dX10_pass_61 : decode cX10_pass 61 = .ok (.iaload, 1) := by decide +kernel
theorem dX10_pass_62 : decode cX10_pass 62 = .ok (.if_icmp .gt 11, 3) := by decide +kernel
theorem dX10_pass_65 : decode cX10_pass 65 = .ok (.aload_n 0, 1) := by decide +kernel
theorem dX10_pass_66 : decode cX10_pass 66 = .ok (.iload_n 2, 1) := by decide +kernel
theorem dX10_pass_67 : decode cX10_pass 67 = .ok (.invokevirtual 156, 3) := by decide +kernel
theorem dX10_pass_70 : decode cX10_pass 70 = .ok (.goto (-55), 3) := by decide +kernel
theorem dX10_pass_73 : decode cX10_pass 73 = .ok (.iinc 2 1, 3) := by decide +kernel
theorem dX10_pass_76 : decode cX10_pass 76 = .ok (.goto (-61), 3) := by decide +kernel
theorem dX10_pass_79 : decode cX10_pass 79 = .ok (.iconst 0, 1) := by decide +kernel
theorem dX10_pass_80 : decode cX10_pass 80 = .ok (.istore_n 3, 1) := by decide +kernel
theorem dX10_pass_81 : decode cX10_pass 81 = .ok (.iload_n 3, 1) := by decide +kernel
theorem dX10_pass_82 : decode cX10_pass 82 = .ok (.aload_n 0, 1) := by decide +kernel
theorem dX10_pass_83 : decode cX10_pass 83 = .ok (.getfield 7, 3) := by decide +kernel
theorem dX10_pass_86 : decode cX10_pass 86 = .ok (.bipush 6, 2) := by decide +kernel
theorem dX10_pass_88 : decode cX10_pass 88 = .ok (.iaload, 1) := by decide +kernel
theorem dX10_pass_89 : decode cX10_pass 89 = .ok (.if_icmp .ge 58, 3) := by decide +kernel
theorem dX10_pass_92 : decode cX10_pass 92 = .ok (.aload_n 0, 1) := by decide +kernel
theorem dX10_pass_93 : decode cX10_pass 93 = .ok (.getfield 37, 3) := by decide +kernel
theorem dX10_pass_96 : decode cX10_pass 96 = .ok (.iload_n 3, 1) := by decide +kernel
theorem dX10_pass_97 : decode cX10_pass 97 = .ok (.iconst 0, 1) := by decide +kernel
theorem dX10_pass_98 : decode cX10_pass 98 = .ok (.bastore, 1) := by decide +kernel
theorem dX10_pass_99 : decode cX10_pass 99 = .ok (.aload_n 0, 1) := by decide +kernel
theorem dX10_pass_100 : decode cX10_pass 100 = .ok (.iload_n 3, 1) := by decide +kernel
theorem dX10_pass_101 : decode cX10_pass 101 = .ok (.bipush 6, 2) := by decide +kernel
theorem dX10_pass_103 : decode cX10_pass 103 = .ok (.invokevirtual 79, 3) := by decide +kernel
theorem dX10_pass_106 : decode cX10_pass 106 = .ok (.iconst 1, 1) := by decide +kernel
theorem dX10_pass_107 : decode cX10_pass 107 = .ok (.if_icmp .ne 34, 3) := by decide +kernel
theorem dX10_pass_110 : decode cX10_pass 110 = .ok (.aload_n 0, 1) := by decide +kernel
theorem dX10_pass_111 : decode cX10_pass 111 = .ok (.iload_n 3, 1) := by decide +kernel
theorem dX10_pass_112 : decode cX10_pass 112 = .ok (.aload_n 0, 1) := by decide +kernel
theorem dX10_pass_113 : decode cX10_pass 113 = .ok (.getfield 7, 3) := by decide +kernel
theorem dX10_pass_116 : decode cX10_pass 116 = .ok (.bipush 7, 2) := by decide +kernel
theorem dX10_pass_118 : decode cX10_pass 118 = .ok (.iaload, 1) := by decide +kernel
theorem dX10_pass_119 : decode cX10_pass 119 = .ok (.invokevirtual 150, 3) := by decide +kernel
theorem dX10_pass_122 : decode cX10_pass 122 = .ok (.ifCond .ne 19, 3) := by decide +kernel
theorem dX10_pass_125 : decode cX10_pass 125 = .ok (.aload_n 0, 1) := by decide +kernel
theorem dX10_pass_126 : decode cX10_pass 126 = .ok (.getfield 7, 3) := by decide +kernel
theorem dX10_pass_129 : decode cX10_pass 129 = .ok (.bipush 70, 2) := by decide +kernel
theorem dX10_pass_131 : decode cX10_pass 131 = .ok (.bipush 9, 2) := by decide +kernel
theorem dX10_pass_133 : decode cX10_pass 133 = .ok (.iload_n 3, 1) := by decide +kernel
theorem dX10_pass_134 : decode cX10_pass 134 = .ok (.imul, 1) := by decide +kernel
theorem dX10_pass_135 : decode cX10_pass 135 = .ok (.iadd, 1) := by decide +kernel
theorem dX10_pass_136 : decode cX10_pass 136 = .ok (.bipush 6, 2) := by decide +kernel
theorem dX10_pass_138 : decode cX10_pass 138 = .ok (.iadd, 1) := by decide +kernel
theorem dX10_pass_139 : decode cX10_pass 139 = .ok (.iconst 0, 1) := by decide +kernel
theorem dX10_pass_140 : decode cX10_pass 140 = .ok (.iastore, 1) := by decide +kernel
theorem dX10_pass_141 : decode cX10_pass 141 = .ok (.iinc 3 1, 3) := by decide +kernel
theorem dX10_pass_144 : decode cX10_pass 144 = .ok (.goto (-63), 3) := by decide +kernel
theorem dX10_pass_147 : decode cX10_pass 147 = .ok (.iconst 0, 1) := by decide +kernel
theorem dX10_pass_148 : decode cX10_pass 148 = .ok (.istore_n 3, 1) := by decide +kernel
theorem dX10_pass_149 : decode cX10_pass 149 = .ok (.iload_n 3, 1) := by decide +kernel
theorem dX10_pass_150 : decode cX10_pass 150 = .ok (.aload_n 0, 1) := by decide +kernel
theorem dX10_pass_151 : decode cX10_pass 151 = .ok (.getfield 7, 3) := by decide +kernel
theorem dX10_pass_154 : decode cX10_pass 154 = .ok (.bipush 6, 2) := by decide +kernel
theorem dX10_pass_156 : decode cX10_pass 156 = .ok (.iaload, 1) := by decide +kernel
theorem dX10_pass_157 : decode cX10_pass 157 = .ok (.if_icmp .ge 85, 3) := by decide +kernel
theorem dX10_pass_160 : decode cX10_pass 160 = .ok (.iload_n 3, 1) := by decide +kernel
theorem dX10_pass_161 : decode cX10_pass 161 = .ok (.iconst 1, 1) := by decide +kernel
theorem dX10_pass_162 : decode cX10_pass 162 = .ok (.iadd, 1) := by decide +kernel
theorem dX10_pass_163 : decode cX10_pass 163 = .ok (.istore 4, 2) := by decide +kernel
theorem dX10_pass_165 : decode cX10_pass 165 = .ok (.iload 4, 2) := by decide +kernel
theorem dX10_pass_167 : decode cX10_pass 167 = .ok (.aload_n 0, 1) := by decide +kernel
theorem dX10_pass_168 : decode cX10_pass 168 = .ok (.getfield 7, 3) := by decide +kernel
theorem dX10_pass_171 : decode cX10_pass 171 = .ok (.bipush 6, 2) := by decide +kernel
theorem dX10_pass_173 : decode cX10_pass 173 = .ok (.iaload, 1) := by decide +kernel
theorem dX10_pass_174 : decode cX10_pass 174 = .ok (.if_icmp .ge 62, 3) := by decide +kernel
theorem dX10_pass_177 : decode cX10_pass 177 = .ok (.aload_n 0, 1) := by decide +kernel
theorem dX10_pass_178 : decode cX10_pass 178 = .ok (.iload_n 3, 1) := by decide +kernel
theorem dX10_pass_179 : decode cX10_pass 179 = .ok (.bipush 6, 2) := by decide +kernel
theorem dX10_pass_181 : decode cX10_pass 181 = .ok (.invokevirtual 79, 3) := by decide +kernel
theorem dX10_pass_184 : decode cX10_pass 184 = .ok (.iconst 1, 1) := by decide +kernel
theorem dX10_pass_185 : decode cX10_pass 185 = .ok (.if_icmp .ne 45, 3) := by decide +kernel
theorem dX10_pass_188 : decode cX10_pass 188 = .ok (.aload_n 0, 1) := by decide +kernel
theorem dX10_pass_189 : decode cX10_pass 189 = .ok (.iload 4, 2) := by decide +kernel
theorem dX10_pass_191 : decode cX10_pass 191 = .ok (.bipush 6, 2) := by decide +kernel
theorem dX10_pass_193 : decode cX10_pass 193 = .ok (.invokevirtual 79, 3) := by decide +kernel
theorem dX10_pass_196 : decode cX10_pass 196 = .ok (.iconst 1, 1) := by decide +kernel
theorem dX10_pass_197 : decode cX10_pass 197 = .ok (.if_icmp .ne 33, 3) := by decide +kernel
theorem dX10_pass_200 : decode cX10_pass 200 = .ok (.aload_n 0, 1) := by decide +kernel
theorem dX10_pass_201 : decode cX10_pass 201 = .ok (.iload_n 3, 1) := by decide +kernel
theorem dX10_pass_202 : decode cX10_pass 202 = .ok (.iload 4, 2) := by decide +kernel
theorem dX10_pass_204 : decode cX10_pass 204 = .ok (.aload_n 0, 1) := by decide +kernel
theorem dX10_pass_205 : decode cX10_pass 205 = .ok (.getfield 7, 3) := by decide +kernel
theorem dX10_pass_208 : decode cX10_pass 208 = .ok (.bipush 7, 2) := by decide +kernel
theorem dX10_pass_210 : decode cX10_pass 210 = .ok (.iaload, 1) := by decide +kernel
theorem dX10_pass_211 : decode cX10_pass 211 = .ok (.invokevirtual 141, 3) := by decide +kernel
theorem dX10_pass_214 : decode cX10_pass 214 = .ok (.ifCond .ne 6, 3) := by decide +kernel
theorem dX10_pass_217 : decode cX10_pass 217 = .ok (.goto 13, 3) := by decide +kernel
theorem dX10_pass_220 : decode cX10_pass 220 = .ok (.aload_n 0, 1) := by decide +kernel
theorem dX10_pass_221 : decode cX10_pass 221 = .ok (.iload_n 3, 1) := by decide +kernel
theorem dX10_pass_222 : decode cX10_pass 222 = .ok (.iload 4, 2) := by decide +kernel
theorem dX10_pass_224 : decode cX10_pass 224 = .ok (.invokevirtual 165, 3) := by decide +kernel
theorem dX10_pass_227 : decode cX10_pass 227 = .ok (.iinc 1 1, 3) := by decide +kernel
theorem dX10_pass_230 : decode cX10_pass 230 = .ok (.iinc 4 1, 3) := by decide +kernel
theorem dX10_pass_233 : decode cX10_pass 233 = .ok (.goto (-68), 3) := by decide +kernel
theorem dX10_pass_236 : decode cX10_pass 236 = .ok (.iinc 3 1, 3) := by decide +kernel
theorem dX10_pass_239 : decode cX10_pass 239 = .ok (.goto (-90), 3) := by decide +kernel
theorem dX10_pass_242 : decode cX10_pass 242 = .ok (.iconst 0, 1) := by decide +kernel
theorem dX10_pass_243 : decode cX10_pass 243 = .ok (.istore_n 3, 1) := by decide +kernel
theorem dX10_pass_244 : decode cX10_pass 244 = .ok (.iload_n 3, 1) := by decide +kernel
theorem dX10_pass_245 : decode cX10_pass 245 = .ok (.aload_n 0, 1) := by decide +kernel
theorem dX10_pass_246 : decode cX10_pass 246 = .ok (.getfield 7, 3) := by decide +kernel
theorem dX10_pass_249 : decode cX10_pass 249 = .ok (.bipush 6, 2) := by decide +kernel
theorem dX10_pass_251 : decode cX10_pass 251 = .ok (.iaload, 1) := by decide +kernel
theorem dX10_pass_252 : decode cX10_pass 252 = .ok (.if_icmp .ge 34, 3) := by decide +kernel
theorem dX10_pass_255 : decode cX10_pass 255 = .ok (.aload_n 0, 1) := by decide +kernel
theorem dX10_pass_256 : decode cX10_pass 256 = .ok (.getfield 37, 3) := by decide +kernel
theorem dX10_pass_259 : decode cX10_pass 259 = .ok (.iload_n 3, 1) := by decide +kernel
theorem dX10_pass_260 : decode cX10_pass 260 = .ok (.baload, 1) := by decide +kernel
theorem dX10_pass_261 : decode cX10_pass 261 = .ok (.ifCond .eq 19, 3) := by decide +kernel
theorem dX10_pass_264 : decode cX10_pass 264 = .ok (.aload_n 0, 1) := by decide +kernel
theorem dX10_pass_265 : decode cX10_pass 265 = .ok (.getfield 7, 3) := by decide +kernel
theorem dX10_pass_268 : decode cX10_pass 268 = .ok (.bipush 70, 2) := by decide +kernel
theorem dX10_pass_270 : decode cX10_pass 270 = .ok (.bipush 9, 2) := by decide +kernel
theorem dX10_pass_272 : decode cX10_pass 272 = .ok (.iload_n 3, 1) := by decide +kernel
theorem dX10_pass_273 : decode cX10_pass 273 = .ok (.imul, 1) := by decide +kernel
theorem dX10_pass_274 : decode cX10_pass 274 = .ok (.iadd, 1) := by decide +kernel
theorem dX10_pass_275 : decode cX10_pass 275 = .ok (.bipush 6, 2) := by decide +kernel
theorem dX10_pass_277 : decode cX10_pass 277 = .ok (.iadd, 1) := by decide +kernel
theorem dX10_pass_278 : decode cX10_pass 278 = .ok (.iconst 2, 1) := by decide +kernel
theorem dX10_pass_279 : decode cX10_pass 279 = .ok (.iastore, 1) := by decide +kernel
theorem dX10_pass_280 : decode cX10_pass 280 = .ok (.iinc 3 1, 3) := by decide +kernel
theorem dX10_pass_283 : decode cX10_pass 283 = .ok (.goto (-39), 3) := by decide +kernel
theorem dX10_pass_286 : decode cX10_pass 286 = .ok (.iload_n 1, 1) := by decide +kernel
theorem dX10_pass_287 : decode cX10_pass 287 = .ok (.ireturn, 1) := by decide +kernel
theorem dX10_passed_0 : decode cX10_passed 0 = .ok (.iconst 0, 1) := by decide +kernel
theorem dX10_passed_1 : decode cX10_passed 1 = .ok (.istore_n 2, 1) := by decide +kernel
theorem dX10_passed_2 : decode cX10_passed 2 = .ok (.iconst 0, 1) := by decide +kernel
theorem dX10_passed_3 : decode cX10_passed 3 = .ok (.istore_n 3, 1) := by decide +kernel
theorem dX10_passed_4 : decode cX10_passed 4 = .ok (.iload_n 3, 1) := by decide +kernel
theorem dX10_passed_5 : decode cX10_passed 5 = .ok (.iload_n 1, 1) := by decide +kernel
theorem dX10_passed_6 : decode cX10_passed 6 = .ok (.if_icmp .ge 16, 3) := by decide +kernel
theorem dX10_passed_9 : decode cX10_passed 9 = .ok (.iload_n 2, 1) := by decide +kernel
theorem dX10_passed_10 : decode cX10_passed 10 = .ok (.aload_n 0, 1) := by decide +kernel
theorem dX10_passed_11 : decode cX10_passed 11 = .ok (.invokevirtual 168, 3) := by decide +kernel
theorem dX10_passed_14 : decode cX10_passed 14 = .ok (.iadd, 1) := by decide +kernel
theorem dX10_passed_15 : decode cX10_passed 15 = .ok (.istore_n 2, 1) := by decide +kernel
theorem dX10_passed_16 : decode cX10_passed 16 = .ok (.iinc 3 1, 3) := by decide +kernel
theorem dX10_passed_19 : decode cX10_passed 19 = .ok (.goto (-15), 3) := by decide +kernel
theorem dX10_passed_22 : decode cX10_passed 22 = .ok (.iload_n 2, 1) := by decide +kernel
theorem dX10_passed_23 : decode cX10_passed 23 = .ok (.ireturn, 1) := by decide +kernel
theorem dX10_tied_0 : decode cX10_tied 0 = .ok (.aload_n 0, 1) := by decide +kernel
theorem dX10_tied_1 : decode cX10_tied 1 = .ok (.iload_n 1, 1) := by decide +kernel
theorem dX10_tied_2 : decode cX10_tied 2 = .ok (.iconst 4, 1) := by decide +kernel
theorem dX10_tied_3 : decode cX10_tied 3 = .ok (.invokevirtual 79, 3) := by decide +kernel
theorem dX10_tied_6 : decode cX10_tied 6 = .ok (.istore_n 3, 1) := by decide +kernel
theorem dX10_tied_7 : decode cX10_tied 7 = .ok (.aload_n 0, 1) := by decide +kernel
theorem dX10_tied_8 : decode cX10_tied 8 = .ok (.iload_n 1, 1) := by decide +kernel
theorem dX10_tied_9 : decode cX10_tied 9 = .ok (.invokevirtual 172, 3) := by decide +kernel
theorem dX10_tied_12 : decode cX10_tied 12 = .ok (.pop, 1) := by decide +kernel
theorem dX10_tied_13 : decode cX10_tied 13 = .ok (.aload_n 0, 1) := by decide +kernel
theorem dX10_tied_14 : decode cX10_tied 14 = .ok (.getfield 7, 3) := by decide +kernel
theorem dX10_tied_17 : decode cX10_tied 17 = .ok (.bipush 70, 2) := by decide +kernel
theorem dX10_tied_19 : decode cX10_tied 19 = .ok (.bipush 9, 2) := by decide +kernel
theorem dX10_tied_21 : decode cX10_tied 21 = .ok (.iload_n 1, 1) := by decide +kernel
theorem dX10_tied_22 : decode cX10_tied 22 = .ok (.imul, 1) := by decide +kernel
theorem dX10_tied_23 : decode cX10_tied 23 = .ok (.iadd, 1) := by decide +kernel
theorem dX10_tied_24 : decode cX10_tied 24 = .ok (.iconst 4, 1) := by decide +kernel
theorem dX10_tied_25 : decode cX10_tied 25 = .ok (.iadd, 1) := by decide +kernel
theorem dX10_tied_26 : decode cX10_tied 26 = .ok (.iload_n 2, 1) := by decide +kernel
theorem dX10_tied_27 : decode cX10_tied 27 = .ok (.iastore, 1) := by decide +kernel
theorem dX10_tied_28 : decode cX10_tied 28 = .ok (.iload_n 3, 1) := by decide +kernel
theorem dX10_tied_29 : decode cX10_tied 29 = .ok (.ireturn, 1) := by decide +kernel
theorem dX10_canRepair_0 : decode cX10_canRepair 0 = .ok (.aload_n 0, 1) := by decide +kernel
theorem dX10_canRepair_1 : decode cX10_canRepair 1 = .ok (.iload_n 1, 1) := by decide +kernel
theorem dX10_canRepair_2 : decode cX10_canRepair 2 = .ok (.bipush 6, 2) := by decide +kernel
theorem dX10_canRepair_4 : decode cX10_canRepair 4 = .ok (.invokevirtual 79, 3) := by decide +kernel
theorem dX10_canRepair_7 : decode cX10_canRepair 7 = .ok (.iconst 2, 1) := by decide +kernel
theorem dX10_canRepair_8 : decode cX10_canRepair 8 = .ok (.if_icmp .ne 24, 3) := by decide +kernel
theorem dX10_canRepair_11 : decode cX10_canRepair 11 = .ok (.aload_n 0, 1) := by decide +kernel
theorem dX10_canRepair_12 : decode cX10_canRepair 12 = .ok (.iload_n 1, 1) := by decide +kernel
theorem dX10_canRepair_13 : decode cX10_canRepair 13 = .ok (.iconst 5, 1) := by decide +kernel
theorem dX10_canRepair_14 : decode cX10_canRepair 14 = .ok (.invokevirtual 79, 3) := by decide +kernel
theorem dX10_canRepair_17 : decode cX10_canRepair 17 = .ok (.iconst 2, 1) := by decide +kernel
theorem dX10_canRepair_18 : decode cX10_canRepair 18 = .ok (.aload_n 0, 1) := by decide +kernel
theorem dX10_canRepair_19 : decode cX10_canRepair 19 = .ok (.iload_n 1, 1) := by decide +kernel
theorem dX10_canRepair_20 : decode cX10_canRepair 20 = .ok (.iconst 4, 1) := by decide +kernel
theorem dX10_canRepair_21 : decode cX10_canRepair 21 = .ok (.invokevirtual 79, 3) := by decide +kernel
theorem dX10_canRepair_24 : decode cX10_canRepair 24 = .ok (.imul, 1) := by decide +kernel
theorem dX10_canRepair_25 : decode cX10_canRepair 25 = .ok (.if_icmp .lt 7, 3) := by decide +kernel
theorem dX10_canRepair_28 : decode cX10_canRepair 28 = .ok (.iconst 1, 1) := by decide +kernel
theorem dX10_canRepair_29 : decode cX10_canRepair 29 = .ok (.goto 4, 3) := by decide +kernel
theorem dX10_canRepair_32 : decode cX10_canRepair 32 = .ok (.iconst 0, 1) := by decide +kernel
theorem dX10_canRepair_33 : decode cX10_canRepair 33 = .ok (.ireturn, 1) := by decide +kernel
theorem dX10_repaired_0 : decode cX10_repaired 0 = .ok (.iconst 2, 1) := by decide +kernel
theorem dX10_repaired_1 : decode cX10_repaired 1 = .ok (.aload_n 0, 1) := by decide +kernel
theorem dX10_repaired_2 : decode cX10_repaired 2 = .ok (.iload_n 1, 1) := by decide +kernel
theorem dX10_repaired_3 : decode cX10_repaired 3 = .ok (.iconst 4, 1) := by decide +kernel
theorem dX10_repaired_4 : decode cX10_repaired 4 = .ok (.invokevirtual 79, 3) := by decide +kernel
theorem dX10_repaired_7 : decode cX10_repaired 7 = .ok (.imul, 1) := by decide +kernel
theorem dX10_repaired_8 : decode cX10_repaired 8 = .ok (.istore_n 2, 1) := by decide +kernel
theorem dX10_repaired_9 : decode cX10_repaired 9 = .ok (.aload_n 0, 1) := by decide +kernel
theorem dX10_repaired_10 : decode cX10_repaired 10 = .ok (.getfield 7, 3) := by decide +kernel
theorem dX10_repaired_13 : decode cX10_repaired 13 = .ok (.bipush 70, 2) := by decide +kernel
theorem dX10_repaired_15 : decode cX10_repaired 15 = .ok (.bipush 9, 2) := by decide +kernel
theorem dX10_repaired_17 : decode cX10_repaired 17 = .ok (.iload_n 1, 1) := by decide +kernel
theorem dX10_repaired_18 : decode cX10_repaired 18 = .ok (.imul, 1) := by decide +kernel
theorem dX10_repaired_19 : decode cX10_repaired 19 = .ok (.iadd, 1) := by decide +kernel
theorem dX10_repaired_20 : decode cX10_repaired 20 = .ok (.iconst 5, 1) := by decide +kernel
theorem dX10_repaired_21 : decode cX10_repaired 21 = .ok (.iadd, 1) := by decide +kernel
theorem dX10_repaired_22 : decode cX10_repaired 22 = .ok (.dup2, 1) := by decide +kernel
theorem dX10_repaired_23 : decode cX10_repaired 23 = .ok (.iaload, 1) := by decide +kernel
theorem dX10_repaired_24 : decode cX10_repaired 24 = .ok (.iload_n 2, 1) := by decide +kernel
theorem dX10_repaired_25 : decode cX10_repaired 25 = .ok (.isub, 1) := by decide +kernel
theorem dX10_repaired_26 : decode cX10_repaired 26 = .ok (.iastore, 1) := by decide +kernel
theorem dX10_repaired_27 : decode cX10_repaired 27 = .ok (.aload_n 0, 1) := by decide +kernel
theorem dX10_repaired_28 : decode cX10_repaired 28 = .ok (.getfield 7, 3) := by decide +kernel
theorem dX10_repaired_31 : decode cX10_repaired 31 = .ok (.bipush 9, 2) := by decide +kernel
theorem dX10_repaired_33 : decode cX10_repaired 33 = .ok (.dup2, 1) := by decide +kernel
theorem dX10_repaired_34 : decode cX10_repaired 34 = .ok (.iaload, 1) := by decide +kernel
theorem dX10_repaired_35 : decode cX10_repaired 35 = .ok (.iload_n 2, 1) := by decide +kernel
theorem dX10_repaired_36 : decode cX10_repaired 36 = .ok (.iadd, 1) := by decide +kernel
theorem dX10_repaired_37 : decode cX10_repaired 37 = .ok (.iastore, 1) := by decide +kernel
theorem dX10_repaired_38 : decode cX10_repaired 38 = .ok (.aload_n 0, 1) := by decide +kernel
theorem dX10_repaired_39 : decode cX10_repaired 39 = .ok (.getfield 7, 3) := by decide +kernel
theorem dX10_repaired_42 : decode cX10_repaired 42 = .ok (.bipush 70, 2) := by decide +kernel
theorem dX10_repaired_44 : decode cX10_repaired 44 = .ok (.bipush 9, 2) := by decide +kernel
theorem dX10_repaired_46 : decode cX10_repaired 46 = .ok (.iload_n 1, 1) := by decide +kernel
theorem dX10_repaired_47 : decode cX10_repaired 47 = .ok (.imul, 1) := by decide +kernel
theorem dX10_repaired_48 : decode cX10_repaired 48 = .ok (.iadd, 1) := by decide +kernel
theorem dX10_repaired_49 : decode cX10_repaired 49 = .ok (.bipush 6, 2) := by decide +kernel
theorem dX10_repaired_51 : decode cX10_repaired 51 = .ok (.iadd, 1) := by decide +kernel
theorem dX10_repaired_52 : decode cX10_repaired 52 = .ok (.iconst 0, 1) := by decide +kernel
theorem dX10_repaired_53 : decode cX10_repaired 53 = .ok (.iastore, 1) := by decide +kernel
theorem dX10_repaired_54 : decode cX10_repaired 54 = .ok (.iload_n 2, 1) := by decide +kernel
theorem dX10_repaired_55 : decode cX10_repaired 55 = .ok (.ireturn, 1) := by decide +kernel
theorem dX10_funded_0 : decode cX10_funded 0 = .ok (.ldc 175, 2) := by decide +kernel
theorem dX10_funded_2 : decode cX10_funded 2 = .ok (.aload_n 0, 1) := by decide +kernel
theorem dX10_funded_3 : decode cX10_funded 3 = .ok (.iload_n 1, 1) := by decide +kernel
theorem dX10_funded_4 : decode cX10_funded 4 = .ok (.iconst 5, 1) := by decide +kernel
theorem dX10_funded_5 : decode cX10_funded 5 = .ok (.invokevirtual 79, 3) := by decide +kernel
theorem dX10_funded_8 : decode cX10_funded 8 = .ok (.isub, 1) := by decide +kernel
theorem dX10_funded_9 : decode cX10_funded 9 = .ok (.istore_n 3, 1) := by decide +kernel
theorem dX10_funded_10 : decode cX10_funded 10 = .ok (.iload_n 3, 1) := by decide +kernel
theorem dX10_funded_11 : decode cX10_funded 11 = .ok (.ifCond .ge 7, 3) := by decide +kernel
theorem dX10_funded_14 : decode cX10_funded 14 = .ok (.iconst 0, 1) := by decide +kernel
theorem dX10_funded_15 : decode cX10_funded 15 = .ok (.goto 8, 3) := by decide +kernel
theorem dX10_funded_18 : decode cX10_funded 18 = .ok (.iload_n 3, 1) := by decide +kernel
theorem dX10_funded_19 : decode cX10_funded 19 = .ok (.iload_n 2, 1) := by decide +kernel
theorem dX10_funded_20 : decode cX10_funded 20 = .ok (.invokestatic 90, 3) := by decide +kernel
theorem dX10_funded_23 : decode cX10_funded 23 = .ok (.istore 4, 2) := by decide +kernel
theorem dX10_funded_25 : decode cX10_funded 25 = .ok (.aload_n 0, 1) := by decide +kernel
theorem dX10_funded_26 : decode cX10_funded 26 = .ok (.getfield 7, 3) := by decide +kernel
theorem dX10_funded_29 : decode cX10_funded 29 = .ok (.bipush 70, 2) := by decide +kernel
theorem dX10_funded_31 : decode cX10_funded 31 = .ok (.bipush 9, 2) := by decide +kernel
theorem dX10_funded_33 : decode cX10_funded 33 = .ok (.iload_n 1, 1) := by decide +kernel
theorem dX10_funded_34 : decode cX10_funded 34 = .ok (.imul, 1) := by decide +kernel
theorem dX10_funded_35 : decode cX10_funded 35 = .ok (.iadd, 1) := by decide +kernel
theorem dX10_funded_36 : decode cX10_funded 36 = .ok (.iconst 5, 1) := by decide +kernel
theorem dX10_funded_37 : decode cX10_funded 37 = .ok (.iadd, 1) := by decide +kernel
theorem dX10_funded_38 : decode cX10_funded 38 = .ok (.dup2, 1) := by decide +kernel
theorem dX10_funded_39 : decode cX10_funded 39 = .ok (.iaload, 1) := by decide +kernel
theorem dX10_funded_40 : decode cX10_funded 40 = .ok (.iload 4, 2) := by decide +kernel
theorem dX10_funded_42 : decode cX10_funded 42 = .ok (.iadd, 1) := by decide +kernel
theorem dX10_funded_43 : decode cX10_funded 43 = .ok (.iastore, 1) := by decide +kernel
theorem dX10_funded_44 : decode cX10_funded 44 = .ok (.aload_n 0, 1) := by decide +kernel
theorem dX10_funded_45 : decode cX10_funded 45 = .ok (.getfield 7, 3) := by decide +kernel
theorem dX10_funded_48 : decode cX10_funded 48 = .ok (.bipush 10, 2) := by decide +kernel
theorem dX10_funded_50 : decode cX10_funded 50 = .ok (.dup2, 1) := by decide +kernel
theorem dX10_funded_51 : decode cX10_funded 51 = .ok (.iaload, 1) := by decide +kernel
theorem dX10_funded_52 : decode cX10_funded 52 = .ok (.iload 4, 2) := by decide +kernel
theorem dX10_funded_54 : decode cX10_funded 54 = .ok (.iadd, 1) := by decide +kernel
theorem dX10_funded_55 : decode cX10_funded 55 = .ok (.iastore, 1) := by decide +kernel
theorem dX10_funded_56 : decode cX10_funded 56 = .ok (.aload_n 0, 1) := by decide +kernel
theorem dX10_funded_57 : decode cX10_funded 57 = .ok (.iload_n 1, 1) := by decide +kernel
theorem dX10_funded_58 : decode cX10_funded 58 = .ok (.iconst 5, 1) := by decide +kernel
theorem dX10_funded_59 : decode cX10_funded 59 = .ok (.invokevirtual 79, 3) := by decide +kernel
theorem dX10_funded_62 : decode cX10_funded 62 = .ok (.ireturn, 1) := by decide +kernel
theorem dX10_next_0 : decode cX10_next 0 = .ok (.aload_n 0, 1) := by decide +kernel
theorem dX10_next_1 : decode cX10_next 1 = .ok (.getfield 176, 3) := by decide +kernel
theorem dX10_next_4 : decode cX10_next 4 = .ok (.aload_n 0, 1) := by decide +kernel
theorem dX10_next_5 : decode cX10_next 5 = .ok (.getfield 179, 3) := by decide +kernel
theorem dX10_next_8 : decode cX10_next 8 = .ok (.if_icmp .ge 30, 3) := by decide +kernel
theorem dX10_next_11 : decode cX10_next 11 = .ok (.aload_n 0, 1) := by decide +kernel
theorem dX10_next_12 : decode cX10_next 12 = .ok (.getfield 20, 3) := by decide +kernel
theorem dX10_next_15 : decode cX10_next 15 = .ok (.aload_n 0, 1) := by decide +kernel
theorem dX10_next_16 : decode cX10_next 16 = .ok (.getfield 176, 3) := by decide +kernel
theorem dX10_next_19 : decode cX10_next 19 = .ok (.baload, 1) := by decide +kernel
theorem dX10_next_20 : decode cX10_next 20 = .ok (.bipush 32, 2) := by decide +kernel
theorem dX10_next_22 : decode cX10_next 22 = .ok (.if_icmp .ne 16, 3) := by decide +kernel
theorem dX10_next_25 : decode cX10_next 25 = .ok (.aload_n 0, 1) := by decide +kernel
theorem dX10_next_26 : decode cX10_next 26 = .ok (.dup, 1) := by decide +kernel
theorem dX10_next_27 : decode cX10_next 27 = .ok (.getfield 176, 3) := by decide +kernel
theorem dX10_next_30 : decode cX10_next 30 = .ok (.iconst 1, 1) := by decide +kernel
theorem dX10_next_31 : decode cX10_next 31 = .ok (.iadd, 1) := by decide +kernel
theorem dX10_next_32 : decode cX10_next 32 = .ok (.putfield 176, 3) := by decide +kernel
theorem dX10_next_35 : decode cX10_next 35 = .ok (.goto (-35), 3) := by decide +kernel
theorem dX10_next_38 : decode cX10_next 38 = .ok (.aload_n 0, 1) := by decide +kernel
theorem dX10_next_39 : decode cX10_next 39 = .ok (.aload_n 0, 1) := by decide +kernel
theorem dX10_next_40 : decode cX10_next 40 = .ok (.getfield 176, 3) := by decide +kernel
theorem dX10_next_43 : decode cX10_next 43 = .ok (.putfield 182, 3) := by decide +kernel
theorem dX10_next_46 : decode cX10_next 46 = .ok (.aload_n 0, 1) := by decide +kernel
theorem dX10_next_47 : decode cX10_next 47 = .ok (.getfield 176, 3) := by decide +kernel
theorem dX10_next_50 : decode cX10_next 50 = .ok (.aload_n 0, 1) := by decide +kernel
theorem dX10_next_51 : decode cX10_next 51 = .ok (.getfield 179, 3) := by decide +kernel
theorem dX10_next_54 : decode cX10_next 54 = .ok (.if_icmp .ne 11, 3) := by decide +kernel
theorem dX10_next_57 : decode cX10_next 57 = .ok (.aload_n 0, 1) := by decide +kernel
theorem dX10_next_58 : decode cX10_next 58 = .ok (.iconst 0, 1) := by decide +kernel
theorem dX10_next_59 : decode cX10_next 59 = .ok (.putfield 185, 3) := by decide +kernel
theorem dX10_next_62 : decode cX10_next 62 = .ok (.goto 222, 3) := by decide +kernel
theorem dX10_next_65 : decode cX10_next 65 = .ok (.aload_n 0, 1) := by decide +kernel
theorem dX10_next_66 : decode cX10_next 66 = .ok (.aload_n 0, 1) := by decide +kernel
theorem dX10_next_67 : decode cX10_next 67 = .ok (.getfield 176, 3) := by decide +kernel
theorem dX10_next_70 : decode cX10_next 70 = .ok (.invokevirtual 188, 3) := by decide +kernel
theorem dX10_next_73 : decode cX10_next 73 = .ok (.ifCond .eq 89, 3) := by decide +kernel
theorem dX10_next_76 : decode cX10_next 76 = .ok (.aload_n 0, 1) := by decide +kernel
theorem dX10_next_77 : decode cX10_next 77 = .ok (.iconst 1, 1) := by decide +kernel
theorem dX10_next_78 : decode cX10_next 78 = .ok (.putfield 185, 3) := by decide +kernel
theorem dX10_next_81 : decode cX10_next 81 = .ok (.aload_n 0, 1) := by decide +kernel
theorem dX10_next_82 : decode cX10_next 82 = .ok (.lconst 0, 1) := by decide +kernel
theorem dX10_next_83 : decode cX10_next 83 = .ok (.putfield 192, 3) := by decide +kernel
theorem dX10_next_86 : decode cX10_next 86 = .ok (.aload_n 0, 1) := by decide +kernel
theorem dX10_next_87 : decode cX10_next 87 = .ok (.getfield 176, 3) := by decide +kernel
theorem dX10_next_90 : decode cX10_next 90 = .ok (.aload_n 0, 1) := by decide +kernel
theorem dX10_next_91 : decode cX10_next 91 = .ok (.getfield 179, 3) := by decide +kernel
theorem dX10_next_94 : decode cX10_next 94 = .ok (.if_icmp .ge 190, 3) := by decide +kernel
theorem dX10_next_97 : decode cX10_next 97 = .ok (.aload_n 0, 1) := by decide +kernel
theorem dX10_next_98 : decode cX10_next 98 = .ok (.aload_n 0, 1) := by decide +kernel
theorem dX10_next_99 : decode cX10_next 99 = .ok (.getfield 176, 3) := by decide +kernel
theorem dX10_next_102 : decode cX10_next 102 = .ok (.invokevirtual 188, 3) := by decide +kernel
theorem dX10_next_105 : decode cX10_next 105 = .ok (.ifCond .eq 179, 3) := by decide +kernel
theorem dX10_next_108 : decode cX10_next 108 = .ok (.aload_n 0, 1) := by decide +kernel
theorem dX10_next_109 : decode cX10_next 109 = .ok (.getfield 176, 3) := by decide +kernel
theorem dX10_next_112 : decode cX10_next 112 = .ok (.aload_n 0, 1) := by decide +kernel
theorem dX10_next_113 : decode cX10_next 113 = .ok (.getfield 182, 3) := by decide +kernel
theorem dX10_next_116 : decode cX10_next 116 = .ok (.isub, 1) := by decide +kernel
theorem dX10_next_117 : decode cX10_next 117 = .ok (.bipush 7, 2) := by decide +kernel
theorem dX10_next_119 : decode cX10_next 119 = .ok (.if_icmp .ge 30, 3) := by decide +kernel
theorem dX10_next_122 : decode cX10_next 122 = .ok (.aload_n 0, 1) := by decide +kernel
theorem dX10_next_123 : decode cX10_next 123 = .ok (.ldc2_w 196, 3) := by decide +kernel
theorem dX10_next_126 : decode cX10_next 126 = .ok (.aload_n 0, 1) := by decide +kernel
theorem dX10_next_127 : decode cX10_next 127 = .ok (.getfield 192, 3) := by decide +kernel
theorem dX10_next_130 : decode cX10_next 130 = .ok (.lmul, 1) := by decide +kernel
theorem dX10_next_131 : decode cX10_next 131 = .ok (.aload_n 0, 1) := by decide +kernel
theorem dX10_next_132 : decode cX10_next 132 = .ok (.getfield 20, 3) := by decide +kernel
theorem dX10_next_135 : decode cX10_next 135 = .ok (.aload_n 0, 1) := by decide +kernel
theorem dX10_next_136 : decode cX10_next 136 = .ok (.getfield 176, 3) := by decide +kernel
theorem dX10_next_139 : decode cX10_next 139 = .ok (.baload, 1) := by decide +kernel
theorem dX10_next_140 : decode cX10_next 140 = .ok (.i2l, 1) := by decide +kernel
theorem dX10_next_141 : decode cX10_next 141 = .ok (.ladd, 1) := by decide +kernel
theorem dX10_next_142 : decode cX10_next 142 = .ok (.ldc2_w 198, 3) := by decide +kernel
theorem dX10_next_145 : decode cX10_next 145 = .ok (.lsub, 1) := by decide +kernel
theorem dX10_next_146 : decode cX10_next 146 = .ok (.putfield 192, 3) := by decide +kernel
theorem dX10_next_149 : decode cX10_next 149 = .ok (.aload_n 0, 1) := by decide +kernel
theorem dX10_next_150 : decode cX10_next 150 = .ok (.dup, 1) := by decide +kernel
theorem dX10_next_151 : decode cX10_next 151 = .ok (.getfield 176, 3) := by decide +kernel
theorem dX10_next_154 : decode cX10_next 154 = .ok (.iconst 1, 1) := by decide +kernel
theorem dX10_next_155 : decode cX10_next 155 = .ok (.iadd, 1) := by decide +kernel
theorem dX10_next_156 : decode cX10_next 156 = .ok (.putfield 176, 3) := by decide +kernel
theorem dX10_next_159 : decode cX10_next 159 = .ok (.goto (-73), 3) := by decide +kernel
theorem dX10_next_162 : decode cX10_next 162 = .ok (.aload_n 0, 1) := by decide +kernel
theorem dX10_next_163 : decode cX10_next 163 = .ok (.aload_n 0, 1) := by decide +kernel
theorem dX10_next_164 : decode cX10_next 164 = .ok (.getfield 176, 3) := by decide +kernel
theorem dX10_next_167 : decode cX10_next 167 = .ok (.invokevirtual 200, 3) := by decide +kernel
theorem dX10_next_170 : decode cX10_next 170 = .ok (.ifCond .eq 84, 3) := by decide +kernel
theorem dX10_next_173 : decode cX10_next 173 = .ok (.aload_n 0, 1) := by decide +kernel
theorem dX10_next_174 : decode cX10_next 174 = .ok (.iconst 2, 1) := by decide +kernel
theorem dX10_next_175 : decode cX10_next 175 = .ok (.putfield 185, 3) := by decide +kernel
theorem dX10_next_178 : decode cX10_next 178 = .ok (.aload_n 0, 1) := by decide +kernel
theorem dX10_next_179 : decode cX10_next 179 = .ok (.iconst 0, 1) := by decide +kernel
theorem dX10_next_180 : decode cX10_next 180 = .ok (.putfield 203, 3) := by decide +kernel
theorem dX10_next_183 : decode cX10_next 183 = .ok (.aload_n 0, 1) := by decide +kernel
theorem dX10_next_184 : decode cX10_next 184 = .ok (.getfield 176, 3) := by decide +kernel
theorem dX10_next_187 : decode cX10_next 187 = .ok (.aload_n 0, 1) := by decide +kernel
theorem dX10_next_188 : decode cX10_next 188 = .ok (.getfield 179, 3) := by decide +kernel
theorem dX10_next_191 : decode cX10_next 191 = .ok (.if_icmp .ge 93, 3) := by decide +kernel
theorem dX10_next_194 : decode cX10_next 194 = .ok (.aload_n 0, 1) := by decide +kernel
theorem dX10_next_195 : decode cX10_next 195 = .ok (.aload_n 0, 1) := by decide +kernel
theorem dX10_next_196 : decode cX10_next 196 = .ok (.getfield 176, 3) := by decide +kernel
theorem dX10_next_199 : decode cX10_next 199 = .ok (.invokevirtual 200, 3) := by decide +kernel
theorem dX10_next_202 : decode cX10_next 202 = .ok (.ifCond .eq 82, 3) := by decide +kernel
theorem dX10_next_205 : decode cX10_next 205 = .ok (.aload_n 0, 1) := by decide +kernel
theorem dX10_next_206 : decode cX10_next 206 = .ok (.bipush 10, 2) := by decide +kernel
theorem dX10_next_208 : decode cX10_next 208 = .ok (.aload_n 0, 1) := by decide +kernel
theorem dX10_next_209 : decode cX10_next 209 = .ok (.getfield 203, 3) := by decide +kernel
theorem dX10_next_212 : decode cX10_next 212 = .ok (.imul, 1) := by decide +kernel
theorem dX10_next_213 : decode cX10_next 213 = .ok (.aload_n 0, 1) := by decide +kernel
theorem dX10_next_214 : decode cX10_next 214 = .ok (.getfield 20, 3) := by decide +kernel
theorem dX10_next_217 : decode cX10_next 217 = .ok (.aload_n 0, 1) := by decide +kernel
theorem dX10_next_218 : decode cX10_next 218 = .ok (.dup, 1) := by decide +kernel
theorem dX10_next_219 : decode cX10_next 219 = .ok (.getfield 176, 3) := by decide +kernel
theorem dX10_next_222 : decode cX10_next 222 = .ok (.dup_x1, 1) := by decide +kernel
theorem dX10_next_223 : decode cX10_next 223 = .ok (.iconst 1, 1) := by decide +kernel
theorem dX10_next_224 : decode cX10_next 224 = .ok (.iadd, 1) := by decide +kernel
theorem dX10_next_225 : decode cX10_next 225 = .ok (.putfield 176, 3) := by decide +kernel
theorem dX10_next_228 : decode cX10_next 228 = .ok (.baload, 1) := by decide +kernel
theorem dX10_next_229 : decode cX10_next 229 = .ok (.iadd, 1) := by decide +kernel
theorem dX10_next_230 : decode cX10_next 230 = .ok (.bipush 48, 2) := by decide +kernel
theorem dX10_next_232 : decode cX10_next 232 = .ok (.isub, 1) := by decide +kernel
theorem dX10_next_233 : decode cX10_next 233 = .ok (.putfield 203, 3) := by decide +kernel
theorem dX10_next_236 : decode cX10_next 236 = .ok (.aload_n 0, 1) := by decide +kernel
theorem dX10_next_237 : decode cX10_next 237 = .ok (.getfield 203, 3) := by decide +kernel
theorem dX10_next_240 : decode cX10_next 240 = .ok (.ldc 206, 2) := by decide +kernel
theorem dX10_next_242 : decode cX10_next 242 = .ok (.if_icmp .le (-59), 3) := by decide +kernel
theorem dX10_next_245 : decode cX10_next 245 = .ok (.aload_n 0, 1) := by decide +kernel
theorem dX10_next_246 : decode cX10_next 246 = .ok (.ldc 206, 2) := by decide +kernel
theorem dX10_next_248 : decode cX10_next 248 = .ok (.putfield 203, 3) := by decide +kernel
theorem dX10_next_251 : decode cX10_next 251 = .ok (.goto (-68), 3) := by decide +kernel
theorem dX10_next_254 : decode cX10_next 254 = .ok (.aload_n 0, 1) := by decide +kernel
theorem dX10_next_255 : decode cX10_next 255 = .ok (.aload_n 0, 1) := by decide +kernel
theorem dX10_next_256 : decode cX10_next 256 = .ok (.getfield 20, 3) := by decide +kernel
theorem dX10_next_259 : decode cX10_next 259 = .ok (.aload_n 0, 1) := by decide +kernel
theorem dX10_next_260 : decode cX10_next 260 = .ok (.dup, 1) := by decide +kernel
theorem dX10_next_261 : decode cX10_next 261 = .ok (.getfield 176, 3) := by decide +kernel
theorem dX10_next_264 : decode cX10_next 264 = .ok (.dup_x1, 1) := by decide +kernel
theorem dX10_next_265 : decode cX10_next 265 = .ok (.iconst 1, 1) := by decide +kernel
theorem dX10_next_266 : decode cX10_next 266 = .ok (.iadd, 1) := by decide +kernel
theorem dX10_next_267 : decode cX10_next 267 = .ok (.putfield 176, 3) := by decide +kernel
theorem dX10_next_270 : decode cX10_next 270 = .ok (.baload, 1) := by decide +kernel
theorem dX10_next_271 : decode cX10_next 271 = .ok (.bipush 59, 2) := by decide +kernel
theorem dX10_next_273 : decode cX10_next 273 = .ok (.if_icmp .ne 7, 3) := by decide +kernel
theorem dX10_next_276 : decode cX10_next 276 = .ok (.iconst 3, 1) := by decide +kernel
theorem dX10_next_277 : decode cX10_next 277 = .ok (.goto 4, 3) := by decide +kernel
theorem dX10_next_280 : decode cX10_next 280 = .ok (.iconst 4, 1) := by decide +kernel
theorem dX10_next_281 : decode cX10_next 281 = .ok (.putfield 185, 3) := by decide +kernel
theorem dX10_next_284 : decode cX10_next 284 = .ok (.return_, 1) := by decide +kernel
theorem dX10_letter_0 : decode cX10_letter 0 = .ok (.aload_n 0, 1) := by decide +kernel
theorem dX10_letter_1 : decode cX10_letter 1 = .ok (.getfield 20, 3) := by decide +kernel
theorem dX10_letter_4 : decode cX10_letter 4 = .ok (.iload_n 1, 1) := by decide +kernel
theorem dX10_letter_5 : decode cX10_letter 5 = .ok (.baload, 1) := by decide +kernel
theorem dX10_letter_6 : decode cX10_letter 6 = .ok (.bipush 97, 2) := by decide +kernel
theorem dX10_letter_8 : decode cX10_letter 8 = .ok (.if_icmp .lt 18, 3) := by decide +kernel
theorem dX10_letter_11 : decode cX10_letter 11 = .ok (.aload_n 0, 1) := by decide +kernel
theorem dX10_letter_12 : decode cX10_letter 12 = .ok (.getfield 20, 3) := by decide +kernel
theorem dX10_letter_15 : decode cX10_letter 15 = .ok (.iload_n 1, 1) := by decide +kernel
theorem dX10_letter_16 : decode cX10_letter 16 = .ok (.baload, 1) := by decide +kernel
theorem dX10_letter_17 : decode cX10_letter 17 = .ok (.bipush 122, 2) := by decide +kernel
theorem dX10_letter_19 : decode cX10_letter 19 = .ok (.if_icmp .gt 7, 3) := by decide +kernel
theorem dX10_letter_22 : decode cX10_letter 22 = .ok (.iconst 1, 1) := by decide +kernel
theorem dX10_letter_23 : decode cX10_letter 23 = .ok (.goto 4, 3) := by decide +kernel
theorem dX10_letter_26 : decode cX10_letter 26 = .ok (.iconst 0, 1) := by decide +kernel
theorem dX10_letter_27 : decode cX10_letter 27 = .ok (.ireturn, 1) := by decide +kernel
theorem dX10_digit_0 : decode cX10_digit 0 = .ok (.aload_n 0, 1) := by decide +kernel
theorem dX10_digit_1 : decode cX10_digit 1 = .ok (.getfield 20, 3) := by decide +kernel
theorem dX10_digit_4 : decode cX10_digit 4 = .ok (.iload_n 1, 1) := by decide +kernel
theorem dX10_digit_5 : decode cX10_digit 5 = .ok (.baload, 1) := by decide +kernel
theorem dX10_digit_6 : decode cX10_digit 6 = .ok (.bipush 48, 2) := by decide +kernel
theorem dX10_digit_8 : decode cX10_digit 8 = .ok (.if_icmp .lt 18, 3) := by decide +kernel
theorem dX10_digit_11 : decode cX10_digit 11 = .ok (.aload_n 0, 1) := by decide +kernel
theorem dX10_digit_12 : decode cX10_digit 12 = .ok (.getfield 20, 3) := by decide +kernel
theorem dX10_digit_15 : decode cX10_digit 15 = .ok (.iload_n 1, 1) := by decide +kernel
theorem dX10_digit_16 : decode cX10_digit 16 = .ok (.baload, 1) := by decide +kernel
theorem dX10_digit_17 : decode cX10_digit 17 = .ok (.bipush 57, 2) := by decide +kernel
theorem dX10_digit_19 : decode cX10_digit 19 = .ok (.if_icmp .gt 7, 3) := by decide +kernel
theorem dX10_digit_22 : decode cX10_digit 22 = .ok (.iconst 1, 1) := by decide +kernel
theorem dX10_digit_23 : decode cX10_digit 23 = .ok (.goto 4, 3) := by decide +kernel
theorem dX10_digit_26 : decode cX10_digit 26 = .ok (.iconst 0, 1) := by decide +kernel
theorem dX10_digit_27 : decode cX10_digit 27 = .ok (.ireturn, 1) := by decide +kernel
theorem dX10_isWord_0 : decode cX10_isWord 0 = .ok (.aload_n 0, 1) := by decide +kernel
theorem dX10_isWord_1 : decode cX10_isWord 1 = .ok (.getfield 185, 3) := by decide +kernel
theorem dX10_isWord_4 : decode cX10_isWord 4 = .ok (.iconst 1, 1) := by decide +kernel
theorem dX10_isWord_5 : decode cX10_isWord 5 = .ok (.if_icmp .ne 30, 3) := by decide +kernel
theorem dX10_isWord_8 : decode cX10_isWord 8 = .ok (.aload_n 0, 1) := by decide +kernel
theorem dX10_isWord_9 : decode cX10_isWord 9 = .ok (.getfield 176, 3) := by decide +kernel
theorem dX10_isWord_12 : decode cX10_isWord 12 = .ok (.aload_n 0, 1) := by decide +kernel
theorem dX10_isWord_13 : decode cX10_isWord 13 = .ok (.getfield 182, 3) := by decide +kernel
theorem dX10_isWord_16 : decode cX10_isWord 16 = .ok (.isub, 1) := by decide +kernel
theorem dX10_isWord_17 : decode cX10_isWord 17 = .ok (.bipush 8, 2) := by decide +kernel
theorem dX10_isWord_19 : decode cX10_isWord 19 = .ok (.if_icmp .ge 16, 3) := by decide +kernel
theorem dX10_isWord_22 : decode cX10_isWord 22 = .ok (.aload_n 0, 1) := by decide +kernel
theorem dX10_isWord_23 : decode cX10_isWord 23 = .ok (.getfield 192, 3) := by decide +kernel
theorem dX10_isWord_26 : decode cX10_isWord 26 = .ok (.lload_n 1, 1) := by decide +kernel
theorem dX10_isWord_27 : decode cX10_isWord 27 = .ok (.lcmp, 1) := by decide +kernel
theorem dX10_isWord_28 : decode cX10_isWord 28 = .ok (.ifCond .ne 7, 3) := by decide +kernel
theorem dX10_isWord_31 : decode cX10_isWord 31 = .ok (.iconst 1, 1) := by decide +kernel
theorem dX10_isWord_32 : decode cX10_isWord 32 = .ok (.goto 4, 3) := by decide +kernel
theorem dX10_isWord_35 : decode cX10_isWord 35 = .ok (.iconst 0, 1) := by decide +kernel
theorem dX10_isWord_36 : decode cX10_isWord 36 = .ok (.ireturn, 1) := by decide +kernel
theorem dX10_wrong_0 : decode cX10_wrong 0 = .ok (.aload_n 0, 1) := by decide +kernel
theorem dX10_wrong_1 : decode cX10_wrong 1 = .ok (.iload_n 1, 1) := by decide +kernel
theorem dX10_wrong_2 : decode cX10_wrong 2 = .ok (.putfield 207, 3) := by decide +kernel
theorem dX10_wrong_5 : decode cX10_wrong 5 = .ok (.aload_n 0, 1) := by decide +kernel
theorem dX10_wrong_6 : decode cX10_wrong 6 = .ok (.aload_n 0, 1) := by decide +kernel
theorem dX10_wrong_7 : decode cX10_wrong 7 = .ok (.getfield 182, 3) := by decide +kernel
theorem dX10_wrong_10 : decode cX10_wrong 10 = .ok (.putfield 24, 3) := by decide +kernel
theorem dX10_wrong_13 : decode cX10_wrong 13 = .ok (.iconst 0, 1) := by decide +kernel
theorem dX10_wrong_14 : decode cX10_wrong 14 = .ok (.ireturn, 1) := by decide +kernel
theorem dX10_numeral_0 : decode cX10_numeral 0 = .ok (.aload_n 0, 1) := by decide +kernel
theorem dX10_numeral_1 : decode cX10_numeral 1 = .ok (.invokevirtual 210, 3) := by decide +kernel
theorem dX10_numeral_4 : decode cX10_numeral 4 = .ok (.aload_n 0, 1) := by decide +kernel
theorem dX10_numeral_5 : decode cX10_numeral 5 = .ok (.getfield 185, 3) := by decide +kernel
theorem dX10_numeral_8 : decode cX10_numeral 8 = .ok (.iconst 2, 1) := by decide +kernel
theorem dX10_numeral_9 : decode cX10_numeral 9 = .ok (.if_icmp .eq 9, 3) := by decide +kernel
theorem dX10_numeral_12 : decode cX10_numeral 12 = .ok (.aload_n 0, 1) := by decide +kernel
theorem dX10_numeral_13 : decode cX10_numeral 13 = .ok (.iconst 1, 1) := by decide +kernel
theorem dX10_numeral_14 : decode cX10_numeral 14 = .ok (.invokevirtual 213, 3) := by decide +kernel
theorem dX10_numeral_17 : decode cX10_numeral 17 = .ok (.ireturn, 1) := by decide +kernel
theorem dX10_numeral_18 : decode cX10_numeral 18 = .ok (.aload_n 0, 1) := by decide +kernel
theorem dX10_numeral_19 : decode cX10_numeral 19 = .ok (.getfield 203, 3) := by decide +kernel
theorem dX10_numeral_22 : decode cX10_numeral 22 = .ok (.iload_n 1, 1) := by decide +kernel
theorem dX10_numeral_23 : decode cX10_numeral 23 = .ok (.iload_n 2, 1) := by decide +kernel
theorem dX10_numeral_24 : decode cX10_numeral 24 = .ok (.invokestatic 75, 3) := by decide +kernel
theorem dX10_numeral_27 : decode cX10_numeral 27 = .ok (.ifCond .ne 11, 3) := by decide +kernel
theorem dX10_numeral_30 : decode cX10_numeral 30 = .ok (.aload_n 0, 1) := by decide +kernel
theorem dX10_numeral_31 : decode cX10_numeral 31 = .ok (.iconst 2, 1) := by decide +kernel
theorem dX10_numeral_32 : decode cX10_numeral 32 = .ok (.invokevirtual 213, 3) := by decide +kernel
theorem dX10_numeral_35 : decode cX10_numeral 35 = .ok (.ifCond .eq 7, 3) := by decide +kernel
theorem dX10_numeral_38 : decode cX10_numeral 38 = .ok (.iconst 1, 1) := by decide +kernel
theorem dX10_numeral_39 : decode cX10_numeral 39 = .ok (.goto 4, 3) := by decide +kernel
theorem dX10_numeral_42 : decode cX10_numeral 42 = .ok (.iconst 0, 1) := by decide +kernel
theorem dX10_numeral_43 : decode cX10_numeral 43 = .ok (.ireturn, 1) := by decide +kernel
theorem dX10_ends_0 : decode cX10_ends 0 = .ok (.aload_n 0, 1) := by decide +kernel
theorem dX10_ends_1 : decode cX10_ends 1 = .ok (.invokevirtual 210, 3) := by decide +kernel
theorem dX10_ends_4 : decode cX10_ends 4 = .ok (.aload_n 0, 1) := by decide +kernel
theorem dX10_ends_5 : decode cX10_ends 5 = .ok (.getfield 185, 3) := by decide +kernel
theorem dX10_ends_8 : decode cX10_ends 8 = .ok (.iconst 3, 1) := by decide +kernel
theorem dX10_ends_9 : decode cX10_ends 9 = .ok (.if_icmp .eq 11, 3) := by decide +kernel
theorem dX10_ends_12 : decode cX10_ends 12 = .ok (.aload_n 0, 1) := by decide +kernel
theorem dX10_ends_13 : decode cX10_ends 13 = .ok (.iconst 1, 1) := by decide +kernel
theorem dX10_ends_14 : decode cX10_ends 14 = .ok (.invokevirtual 213, 3) := by decide +kernel
theorem dX10_ends_17 : decode cX10_ends 17 = .ok (.ifCond .eq 7, 3) := by decide +kernel
theorem dX10_ends_20 : decode cX10_ends 20 = .ok (.iconst 1, 1) := by decide +kernel
theorem dX10_ends_21 : decode cX10_ends 21 = .ok (.goto 4, 3) := by decide +kernel
theorem dX10_ends_24 : decode cX10_ends 24 = .ok (.iconst 0, 1) := by decide +kernel
theorem dX10_ends_25 : decode cX10_ends 25 = .ok (.ireturn, 1) := by decide +kernel
theorem dX10_one_0 : decode cX10_one 0 = .ok (.aload_n 0, 1) := by decide +kernel
theorem dX10_one_1 : decode cX10_one 1 = .ok (.iload_n 2, 1) := by decide +kernel
theorem dX10_one_2 : decode cX10_one 2 = .ok (.iload_n 3, 1) := by decide +kernel
theorem dX10_one_3 : decode cX10_one 3 = .ok (.invokevirtual 216, 3) := by decide +kernel
theorem dX10_one_6 : decode cX10_one 6 = .ok (.ifCond .ne 5, 3) := by decide +kernel
theorem dX10_one_9 : decode cX10_one 9 = .ok (.iconst 0, 1) := by decide +kernel
theorem dX10_one_10 : decode cX10_one 10 = .ok (.ireturn, 1) := by decide +kernel
theorem dX10_one_11 : decode cX10_one 11 = .ok (.aload_n 0, 1) := by decide +kernel
theorem dX10_one_12 : decode cX10_one 12 = .ok (.getfield 34, 3) := by decide +kernel
theorem dX10_one_15 : decode cX10_one 15 = .ok (.iload_n 1, 1) := by decide +kernel
theorem dX10_one_16 : decode cX10_one 16 = .ok (.aload_n 0, 1) := by decide +kernel
theorem dX10_one_17 : decode cX10_one 17 = .ok (.getfield 203, 3) := by decide +kernel
theorem dX10_one_20 : decode cX10_one 20 = .ok (.iastore, 1) := by decide +kernel
theorem dX10_one_21 : decode cX10_one 21 = .ok (.iconst 1, 1) := by decide +kernel
theorem dX10_one_22 : decode cX10_one 22 = .ok (.ireturn, 1) := by decide +kernel
theorem dX10_zoneText_0 : decode cX10_zoneText 0 = .ok (.aload_n 0, 1) := by decide +kernel
theorem dX10_zoneText_1 : decode cX10_zoneText 1 = .ok (.getfield 7, 3) := by decide +kernel
theorem dX10_zoneText_4 : decode cX10_zoneText 4 = .ok (.iconst 4, 1) := by decide +kernel
theorem dX10_zoneText_5 : decode cX10_zoneText 5 = .ok (.iaload, 1) := by decide +kernel
theorem dX10_zoneText_6 : decode cX10_zoneText 6 = .ok (.iconst 4, 1) := by decide +kernel
theorem dX10_zoneText_7 : decode cX10_zoneText 7 = .ok (.if_icmp .ne 9, 3) := by decide +kernel
theorem dX10_zoneText_10 : decode cX10_zoneText 10 = .ok (.aload_n 0, 1) := by decide +kernel
theorem dX10_zoneText_11 : decode cX10_zoneText 11 = .ok (.iconst 3, 1) := by decide +kernel
theorem dX10_zoneText_12 : decode cX10_zoneText 12 = .ok (.invokevirtual 213, 3) := by decide +kernel
theorem dX10_zoneText_15 : decode cX10_zoneText 15 = .ok (.ireturn, 1) := by decide +kernel
theorem dX10_zoneText_16 : decode cX10_zoneText 16 = .ok (.aload_n 0, 1) := by decide +kernel
theorem dX10_zoneText_17 : decode cX10_zoneText 17 = .ok (.invokevirtual 47, 3) := by decide +kernel
theorem dX10_zoneText_20 : decode cX10_zoneText 20 = .ok (.iconst 0, 1) := by decide +kernel
theorem dX10_zoneText_21 : decode cX10_zoneText 21 = .ok (.istore_n 1, 1) := by decide +kernel
theorem dX10_zoneText_22 : decode cX10_zoneText 22 = .ok (.aload_n 0, 1) := by decide +kernel
theorem dX10_zoneText_23 : decode cX10_zoneText 23 = .ok (.invokevirtual 210, 3) := by decide +kernel
theorem dX10_zoneText_26 : decode cX10_zoneText 26 = .ok (.aload_n 0, 1) := by decide +kernel
theorem dX10_zoneText_27 : decode cX10_zoneText 27 = .ok (.getfield 185, 3) := by decide +kernel
theorem dX10_zoneText_30 : decode cX10_zoneText 30 = .ok (.iconst 2, 1) := by decide +kernel
theorem dX10_zoneText_31 : decode cX10_zoneText 31 = .ok (.if_icmp .eq 9, 3) := by decide +kernel
theorem dX10_zoneText_34 : decode cX10_zoneText 34 = .ok (.aload_n 0, 1) := by decide +kernel
theorem dX10_zoneText_35 : decode cX10_zoneText 35 = .ok (.iconst 1, 1) := by decide +kernel
theorem dX10_zoneText_36 : decode cX10_zoneText 36 = .ok (.invokevirtual 213, 3) := by decide +kernel
theorem dX10_zoneText_39 : decode cX10_zoneText 39 = .ok (.ireturn, 1) := by decide +kernel
theorem dX10_zoneText_40 : decode cX10_zoneText 40 = .ok (.aload_n 0, 1) := by decide +kernel
theorem dX10_zoneText_41 : decode cX10_zoneText 41 = .ok (.getfield 185, 3) := by decide +kernel
theorem dX10_zoneText_44 : decode cX10_zoneText 44 = .ok (.iconst 2, 1) := by decide +kernel
theorem dX10_zoneText_45 : decode cX10_zoneText 45 = .ok (.if_icmp .ne 67, 3) := by decide +kernel
theorem dX10_zoneText_48 : decode cX10_zoneText 48 = .ok (.aload_n 0, 1) := by decide +kernel
theorem dX10_zoneText_49 : decode cX10_zoneText 49 = .ok (.getfield 203, 3) := by decide +kernel
theorem dX10_zoneText_52 : decode cX10_zoneText 52 = .ok (.istore_n 2, 1) := by decide +kernel
theorem dX10_zoneText_53 : decode cX10_zoneText 53 = .ok (.iload_n 2, 1) := by decide +kernel
theorem dX10_zoneText_54 : decode cX10_zoneText 54 = .ok (.iconst 0, 1) := by decide +kernel
theorem dX10_zoneText_55 : decode cX10_zoneText 55 = .ok (.bipush 7, 2) := by decide +kernel
theorem dX10_zoneText_57 : decode cX10_zoneText 57 = .ok (.invokestatic 75, 3) := by decide +kernel
theorem dX10_zoneText_60 : decode cX10_zoneText 60 = .ok (.ifCond .ne 9, 3) := by decide +kernel
theorem dX10_zoneText_63 : decode cX10_zoneText 63 = .ok (.aload_n 0, 1) := by decide +kernel
theorem dX10_zoneText_64 : decode cX10_zoneText 64 = .ok (.iconst 2, 1) := by decide +kernel
theorem dX10_zoneText_65 : decode cX10_zoneText 65 = .ok (.invokevirtual 213, 3) := by decide +kernel
theorem dX10_zoneText_68 : decode cX10_zoneText 68 = .ok (.ireturn, 1) := by decide +kernel
theorem dX10_zoneText_69 : decode cX10_zoneText 69 = .ok (.iload_n 1, 1) := by decide +kernel
theorem dX10_zoneText_70 : decode cX10_zoneText 70 = .ok (.bipush 6, 2) := by decide +kernel
theorem dX10_zoneText_72 : decode cX10_zoneText 72 = .ok (.if_icmp .ne 9, 3) := by decide +kernel
theorem dX10_zoneText_75 : decode cX10_zoneText 75 = .ok (.aload_n 0, 1) := by decide +kernel
theorem dX10_zoneText_76 : decode cX10_zoneText 76 = .ok (.iconst 3, 1) := by decide +kernel
theorem dX10_zoneText_77 : decode cX10_zoneText 77 = .ok (.invokevirtual 213, 3) := by decide +kernel
theorem dX10_zoneText_80 : decode cX10_zoneText 80 = .ok (.ireturn, 1) := by decide +kernel
theorem dX10_zoneText_81 : decode cX10_zoneText 81 = .ok (.aload_n 0, 1) := by decide +kernel
theorem dX10_zoneText_82 : decode cX10_zoneText 82 = .ok (.iconst 0, 1) := by decide +kernel
theorem dX10_zoneText_83 : decode cX10_zoneText 83 = .ok (.bipush 9, 2) := by decide +kernel
theorem dX10_zoneText_85 : decode cX10_zoneText 85 = .ok (.invokevirtual 216, 3) := by decide +kernel
theorem dX10_zoneText_88 : decode cX10_zoneText 88 = .ok (.ifCond .ne 5, 3) := by decide +kernel
theorem dX10_zoneText_91 : decode cX10_zoneText 91 = .ok (.iconst 0, 1) := by decide +kernel
theorem dX10_zoneText_92 : decode cX10_zoneText 92 = .ok (.ireturn, 1) := by decide +kernel
theorem dX10_zoneText_93 : decode cX10_zoneText 93 = .ok (.aload_n 0, 1) := by decide +kernel
theorem dX10_zoneText_94 : decode cX10_zoneText 94 = .ok (.iload_n 2, 1) := by decide +kernel
theorem dX10_zoneText_95 : decode cX10_zoneText 95 = .ok (.aload_n 0, 1) := by decide +kernel
theorem dX10_zoneText_96 : decode cX10_zoneText 96 = .ok (.getfield 203, 3) := by decide +kernel
theorem dX10_zoneText_99 : decode cX10_zoneText 99 = .ok (.invokevirtual 50, 3) := by decide +kernel
theorem dX10_zoneText_102 : decode cX10_zoneText 102 = .ok (.iinc 1 1, 3) := by decide +kernel
theorem dX10_zoneText_105 : decode cX10_zoneText 105 = .ok (.aload_n 0, 1) := by decide +kernel
theorem dX10_zoneText_106 : decode cX10_zoneText 106 = .ok (.invokevirtual 210, 3) := by decide +kernel
theorem dX10_zoneText_109 : decode cX10_zoneText 109 = .ok (.goto (-69), 3) := by decide +kernel
theorem dX10_zoneText_112 : decode cX10_zoneText 112 = .ok (.aload_n 0, 1) := by decide +kernel
theorem dX10_zoneText_113 : decode cX10_zoneText 113 = .ok (.getfield 185, 3) := by decide +kernel
theorem dX10_zoneText_116 : decode cX10_zoneText 116 = .ok (.iconst 3, 1) := by decide +kernel
theorem dX10_zoneText_117 : decode cX10_zoneText 117 = .ok (.if_icmp .eq 11, 3) := by decide +kernel
theorem dX10_zoneText_120 : decode cX10_zoneText 120 = .ok (.aload_n 0, 1) := by decide +kernel
theorem dX10_zoneText_121 : decode cX10_zoneText 121 = .ok (.iconst 1, 1) := by decide +kernel
theorem dX10_zoneText_122 : decode cX10_zoneText 122 = .ok (.invokevirtual 213, 3) := by decide +kernel
theorem dX10_zoneText_125 : decode cX10_zoneText 125 = .ok (.ifCond .eq 7, 3) := by decide +kernel
theorem dX10_zoneText_128 : decode cX10_zoneText 128 = .ok (.iconst 1, 1) := by decide +kernel
theorem dX10_zoneText_129 : decode cX10_zoneText 129 = .ok (.goto 4, 3) := by decide +kernel
theorem dX10_zoneText_132 : decode cX10_zoneText 132 = .ok (.iconst 0, 1) := by decide +kernel
theorem dX10_zoneText_133 : decode cX10_zoneText 133 = .ok (.ireturn, 1) := by decide +kernel
theorem dX10_colourText_0 : decode cX10_colourText 0 = .ok (.aload_n 0, 1) := by decide +kernel
theorem dX10_colourText_1 : decode cX10_colourText 1 = .ok (.getfield 7, 3) := by decide +kernel
theorem dX10_colourText_4 : decode cX10_colourText 4 = .ok (.iconst 5, 1) := by decide +kernel
theorem dX10_colourText_5 : decode cX10_colourText 5 = .ok (.iaload, 1) := by decide +kernel
theorem dX10_colourText_6 : decode cX10_colourText 6 = .ok (.bipush 6, 2) := by decide +kernel
theorem dX10_colourText_8 : decode cX10_colourText 8 = .ok (.if_icmp .ne 9, 3) := by decide +kernel
theorem dX10_colourText_11 : decode cX10_colourText 11 = .ok (.aload_n 0, 1) := by decide +kernel
theorem dX10_colourText_12 : decode cX10_colourText 12 = .ok (.iconst 3, 1) := by decide +kernel
theorem dX10_colourText_13 : decode cX10_colourText 13 = .ok (.invokevirtual 213, 3) := by decide +kernel
theorem dX10_colourText_16 : decode cX10_colourText 16 = .ok (.ireturn, 1) := by decide +kernel
theorem dX10_colourText_17 : decode cX10_colourText 17 = .ok (.aload_n 0, 1) := by decide +kernel
theorem dX10_colourText_18 : decode cX10_colourText 18 = .ok (.iconst 0, 1) := by decide +kernel
theorem dX10_colourText_19 : decode cX10_colourText 19 = .ok (.bipush 9, 2) := by decide +kernel
theorem dX10_colourText_21 : decode cX10_colourText 21 = .ok (.invokevirtual 216, 3) := by decide +kernel
theorem dX10_colourText_24 : decode cX10_colourText 24 = .ok (.ifCond .ne 5, 3) := by decide +kernel
theorem dX10_colourText_27 : decode cX10_colourText 27 = .ok (.iconst 0, 1) := by decide +kernel
theorem dX10_colourText_28 : decode cX10_colourText 28 = .ok (.ireturn, 1) := by decide +kernel
theorem dX10_colourText_29 : decode cX10_colourText 29 = .ok (.aload_n 0, 1) := by decide +kernel
theorem dX10_colourText_30 : decode cX10_colourText 30 = .ok (.aload_n 0, 1) := by decide +kernel
theorem dX10_colourText_31 : decode cX10_colourText 31 = .ok (.getfield 203, 3) := by decide +kernel
theorem dX10_colourText_34 : decode cX10_colourText 34 = .ok (.invokevirtual 54, 3) := by decide +kernel
theorem dX10_colourText_37 : decode cX10_colourText 37 = .ok (.aload_n 0, 1) := by decide +kernel
theorem dX10_colourText_38 : decode cX10_colourText 38 = .ok (.invokevirtual 219, 3) := by decide +kernel
theorem dX10_colourText_41 : decode cX10_colourText 41 = .ok (.ireturn, 1) := by decide +kernel
theorem dX10_kiteText_0 : decode cX10_kiteText 0 = .ok (.aload_n 0, 1) := by decide +kernel
theorem dX10_kiteText_1 : decode cX10_kiteText 1 = .ok (.getfield 7, 3) := by decide +kernel
theorem dX10_kiteText_4 : decode cX10_kiteText 4 = .ok (.bipush 6, 2) := by decide +kernel
theorem dX10_kiteText_6 : decode cX10_kiteText 6 = .ok (.iaload, 1) := by decide +kernel
theorem dX10_kiteText_7 : decode cX10_kiteText 7 = .ok (.bipush 16, 2) := by decide +kernel
theorem dX10_kiteText_9 : decode cX10_kiteText 9 = .ok (.if_icmp .ne 9, 3) := by decide +kernel
theorem dX10_kiteText_12 : decode cX10_kiteText 12 = .ok (.aload_n 0, 1) := by decide +kernel
theorem dX10_kiteText_13 : decode cX10_kiteText 13 = .ok (.iconst 3, 1) := by decide +kernel
theorem dX10_kiteText_14 : decode cX10_kiteText 14 = .ok (.invokevirtual 213, 3) := by decide +kernel
theorem dX10_kiteText_17 : decode cX10_kiteText 17 = .ok (.ireturn, 1) := by decide +kernel
theorem dX10_kiteText_18 : decode cX10_kiteText 18 = .ok (.aload_n 0, 1) := by decide +kernel
theorem dX10_kiteText_19 : decode cX10_kiteText 19 = .ok (.iconst 0, 1) := by decide +kernel
theorem dX10_kiteText_20 : decode cX10_kiteText 20 = .ok (.iconst 0, 1) := by decide +kernel
theorem dX10_kiteText_21 : decode cX10_kiteText 21 = .ok (.aload_n 0, 1) := by decide +kernel
theorem dX10_kiteText_22 : decode cX10_kiteText 22 = .ok (.getfield 7, 3) := by decide +kernel
theorem dX10_kiteText_25 : decode cX10_kiteText 25 = .ok (.iconst 0, 1) := by decide +kernel
theorem dX10_kiteText_26 : decode cX10_kiteText 26 = .ok (.iaload, 1) := by decide +kernel
theorem dX10_kiteText_27 : decode cX10_kiteText 27 = .ok (.iconst 1, 1) := by decide +kernel
theorem dX10_kiteText_28 : decode cX10_kiteText 28 = .ok (.isub, 1) := by decide +kernel
theorem dX10_kiteText_29 : decode cX10_kiteText 29 = .ok (.invokevirtual 223, 3) := by decide +kernel
theorem dX10_kiteText_32 : decode cX10_kiteText 32 = .ok (.ifCond .eq 31, 3) := by decide +kernel
theorem dX10_kiteText_35 : decode cX10_kiteText 35 = .ok (.aload_n 0, 1) := by decide +kernel
theorem dX10_kiteText_36 : decode cX10_kiteText 36 = .ok (.iconst 1, 1) := by decide +kernel
theorem dX10_kiteText_37 : decode cX10_kiteText 37 = .ok (.iconst 0, 1) := by decide +kernel
theorem dX10_kiteText_38 : decode cX10_kiteText 38 = .ok (.aload_n 0, 1) := by decide +kernel
theorem dX10_kiteText_39 : decode cX10_kiteText 39 = .ok (.getfield 7, 3) := by decide +kernel
theorem dX10_kiteText_42 : decode cX10_kiteText 42 = .ok (.iconst 1, 1) := by decide +kernel
theorem dX10_kiteText_43 : decode cX10_kiteText 43 = .ok (.iaload, 1) := by decide +kernel
theorem dX10_kiteText_44 : decode cX10_kiteText 44 = .ok (.iconst 1, 1) := by decide +kernel
theorem dX10_kiteText_45 : decode cX10_kiteText 45 = .ok (.isub, 1) := by decide +kernel
theorem dX10_kiteText_46 : decode cX10_kiteText 46 = .ok (.invokevirtual 223, 3) := by decide +kernel
theorem dX10_kiteText_49 : decode cX10_kiteText 49 = .ok (.ifCond .eq 14, 3) := by decide +kernel
theorem dX10_kiteText_52 : decode cX10_kiteText 52 = .ok (.aload_n 0, 1) := by decide +kernel
theorem dX10_kiteText_53 : decode cX10_kiteText 53 = .ok (.iconst 2, 1) := by decide +kernel
theorem dX10_kiteText_54 : decode cX10_kiteText 54 = .ok (.iconst 1, 1) := by decide +kernel
theorem dX10_kiteText_55 : decode cX10_kiteText 55 = .ok (.bipush 60, 2) := by decide +kernel
theorem dX10_kiteText_57 : decode cX10_kiteText 57 = .ok (.invokevirtual 223, 3) := by decide +kernel
theorem dX10_kiteText_60 : decode cX10_kiteText 60 = .ok (.ifCond .ne 5, 3) := by decide +kernel
theorem dX10_kiteText_63 : decode cX10_kiteText 63 = .ok (.iconst 0, 1) := by decide +kernel
theorem dX10_kiteText_64 : decode cX10_kiteText 64 = .ok (.ireturn, 1) := by decide +kernel
theorem dX10_kiteText_65 : decode cX10_kiteText 65 = .ok (.aload_n 0, 1) := by decide +kernel
theorem dX10_kiteText_66 : decode cX10_kiteText 66 = .ok (.iconst 3, 1) := by decide +kernel
theorem dX10_kiteText_67 : decode cX10_kiteText 67 = .ok (.iconst 0, 1) := by decide +kernel
theorem dX10_kiteText_68 : decode cX10_kiteText 68 = .ok (.aload_n 0, 1) := by decide +kernel
theorem dX10_kiteText_69 : decode cX10_kiteText 69 = .ok (.getfield 7, 3) := by decide +kernel
theorem dX10_kiteText_72 : decode cX10_kiteText 72 = .ok (.iconst 5, 1) := by decide +kernel
theorem dX10_kiteText_73 : decode cX10_kiteText 73 = .ok (.iaload, 1) := by decide +kernel
theorem dX10_kiteText_74 : decode cX10_kiteText 74 = .ok (.iconst 1, 1) := by decide +kernel
theorem dX10_kiteText_75 : decode cX10_kiteText 75 = .ok (.isub, 1) := by decide +kernel
theorem dX10_kiteText_76 : decode cX10_kiteText 76 = .ok (.invokevirtual 223, 3) := by decide +kernel
theorem dX10_kiteText_79 : decode cX10_kiteText 79 = .ok (.ifCond .eq 26, 3) := by decide +kernel
theorem dX10_kiteText_82 : decode cX10_kiteText 82 = .ok (.aload_n 0, 1) := by decide +kernel
theorem dX10_kiteText_83 : decode cX10_kiteText 83 = .ok (.iconst 4, 1) := by decide +kernel
theorem dX10_kiteText_84 : decode cX10_kiteText 84 = .ok (.iconst 0, 1) := by decide +kernel
theorem dX10_kiteText_85 : decode cX10_kiteText 85 = .ok (.bipush 9, 2) := by decide +kernel
theorem dX10_kiteText_87 : decode cX10_kiteText 87 = .ok (.invokevirtual 223, 3) := by decide +kernel
theorem dX10_kiteText_90 : decode cX10_kiteText 90 = .ok (.ifCond .eq 15, 3) := by decide +kernel
theorem dX10_kiteText_93 : decode cX10_kiteText 93 = .ok (.aload_n 0, 1) := by decide +kernel
theorem dX10_kiteText_94 : decode cX10_kiteText 94 = .ok (.iconst 5, 1) := by decide +kernel
theorem dX10_kiteText_95 : decode cX10_kiteText 95 = .ok (.iconst 0, 1) := by decide +kernel
theorem dX10_kiteText_96 : decode cX10_kiteText 96 = .ok (.sipush 999, 3) := by decide +kernel
theorem dX10_kiteText_99 : decode cX10_kiteText 99 = .ok (.invokevirtual 223, 3) := by decide +kernel
theorem dX10_kiteText_102 : decode cX10_kiteText 102 = .ok (.ifCond .ne 5, 3) := by decide +kernel
theorem dX10_kiteText_105 : decode cX10_kiteText 105 = .ok (.iconst 0, 1) := by decide +kernel
theorem dX10_kiteText_106 : decode cX10_kiteText 106 = .ok (.ireturn, 1) := by decide +kernel
theorem dX10_kiteText_107 : decode cX10_kiteText 107 = .ok (.aload_n 0, 1) := by decide +kernel
theorem dX10_kiteText_108 : decode cX10_kiteText 108 = .ok (.aload_n 0, 1) := by decide +kernel
theorem dX10_kiteText_109 : decode cX10_kiteText 109 = .ok (.getfield 34, 3) := by decide +kernel
theorem dX10_kiteText_112 : decode cX10_kiteText 112 = .ok (.iconst 0, 1) := by decide +kernel
theorem dX10_kiteText_113 : decode cX10_kiteText 113 = .ok (.iaload, 1) := by decide +kernel
theorem dX10_kiteText_114 : decode cX10_kiteText 114 = .ok (.aload_n 0, 1) := by decide +kernel
theorem dX10_kiteText_115 : decode cX10_kiteText 115 = .ok (.getfield 34, 3) := by decide +kernel
theorem dX10_kiteText_118 : decode cX10_kiteText 118 = .ok (.iconst 1, 1) := by decide +kernel
theorem dX10_kiteText_119 : decode cX10_kiteText 119 = .ok (.iaload, 1) := by decide +kernel
theorem dX10_kiteText_120 : decode cX10_kiteText 120 = .ok (.aload_n 0, 1) := by decide +kernel
theorem dX10_kiteText_121 : decode cX10_kiteText 121 = .ok (.getfield 34, 3) := by decide +kernel
theorem dX10_kiteText_124 : decode cX10_kiteText 124 = .ok (.iconst 2, 1) := by decide +kernel
theorem dX10_kiteText_125 : decode cX10_kiteText 125 = .ok (.iaload, 1) := by decide +kernel
theorem dX10_kiteText_126 : decode cX10_kiteText 126 = .ok (.aload_n 0, 1) := by decide +kernel
theorem dX10_kiteText_127 : decode cX10_kiteText 127 = .ok (.getfield 34, 3) := by decide +kernel
theorem dX10_kiteText_130 : decode cX10_kiteText 130 = .ok (.iconst 3, 1) := by decide +kernel
theorem dX10_kiteText_131 : decode cX10_kiteText 131 = .ok (.iaload, 1) := by decide +kernel
theorem dX10_kiteText_132 : decode cX10_kiteText 132 = .ok (.aload_n 0, 1) := by decide +kernel
theorem dX10_kiteText_133 : decode cX10_kiteText 133 = .ok (.getfield 34, 3) := by decide +kernel
theorem dX10_kiteText_136 : decode cX10_kiteText 136 = .ok (.iconst 4, 1) := by decide +kernel
theorem dX10_kiteText_137 : decode cX10_kiteText 137 = .ok (.iaload, 1) := by decide +kernel
theorem dX10_kiteText_138 : decode cX10_kiteText 138 = .ok (.aload_n 0, 1) := by decide +kernel
theorem dX10_kiteText_139 : decode cX10_kiteText 139 = .ok (.getfield 34, 3) := by decide +kernel
theorem dX10_kiteText_142 : decode cX10_kiteText 142 = .ok (.iconst 5, 1) := by decide +kernel
theorem dX10_kiteText_143 : decode cX10_kiteText 143 = .ok (.iaload, 1) := by decide +kernel
theorem dX10_kiteText_144 : decode cX10_kiteText 144 = .ok (.invokevirtual 58, 3) := by decide +kernel
theorem dX10_kiteText_147 : decode cX10_kiteText 147 = .ok (.pop, 1) := by decide +kernel
theorem dX10_kiteText_148 : decode cX10_kiteText 148 = .ok (.aload_n 0, 1) := by decide +kernel
theorem dX10_kiteText_149 : decode cX10_kiteText 149 = .ok (.invokevirtual 219, 3) := by decide +kernel
theorem dX10_kiteText_152 : decode cX10_kiteText 152 = .ok (.ireturn, 1) := by decide +kernel
theorem dX10_fieldText_0 : decode cX10_fieldText 0 = .ok (.aload_n 0, 1) := by decide +kernel
theorem dX10_fieldText_1 : decode cX10_fieldText 1 = .ok (.invokevirtual 210, 3) := by decide +kernel
theorem dX10_fieldText_4 : decode cX10_fieldText 4 = .ok (.aload_n 0, 1) := by decide +kernel
theorem dX10_fieldText_5 : decode cX10_fieldText 5 = .ok (.ldc2_w 226, 3) := by decide +kernel
theorem dX10_fieldText_8 : decode cX10_fieldText 8 = .ok (.invokevirtual 228, 3) := by decide +kernel
theorem dX10_fieldText_11 : decode cX10_fieldText 11 = .ok (.ifCond .ne 9, 3) := by decide +kernel
theorem dX10_fieldText_14 : decode cX10_fieldText 14 = .ok (.aload_n 0, 1) := by decide +kernel
theorem dX10_fieldText_15 : decode cX10_fieldText 15 = .ok (.iconst 1, 1) := by decide +kernel
theorem dX10_fieldText_16 : decode cX10_fieldText 16 = .ok (.invokevirtual 213, 3) := by decide +kernel
theorem dX10_fieldText_19 : decode cX10_fieldText 19 = .ok (.ireturn, 1) := by decide +kernel
theorem dX10_fieldText_20 : decode cX10_fieldText 20 = .ok (.aload_n 0, 1) := by decide +kernel
theorem dX10_fieldText_21 : decode cX10_fieldText 21 = .ok (.iconst 0, 1) := by decide +kernel
theorem dX10_fieldText_22 : decode cX10_fieldText 22 = .ok (.bipush 10, 2) := by decide +kernel
theorem dX10_fieldText_24 : decode cX10_fieldText 24 = .ok (.bipush 100, 2) := by decide +kernel
theorem dX10_fieldText_26 : decode cX10_fieldText 26 = .ok (.invokevirtual 223, 3) := by decide +kernel
theorem dX10_fieldText_29 : decode cX10_fieldText 29 = .ok (.ifCond .eq 37, 3) := by decide +kernel
theorem dX10_fieldText_32 : decode cX10_fieldText 32 = .ok (.aload_n 0, 1) := by decide +kernel
theorem dX10_fieldText_33 : decode cX10_fieldText 33 = .ok (.iconst 1, 1) := by decide +kernel
theorem dX10_fieldText_34 : decode cX10_fieldText 34 = .ok (.bipush 10, 2) := by decide +kernel
theorem dX10_fieldText_36 : decode cX10_fieldText 36 = .ok (.bipush 100, 2) := by decide +kernel
theorem dX10_fieldText_38 : decode cX10_fieldText 38 = .ok (.invokevirtual 223, 3) := by decide +kernel
theorem dX10_fieldText_41 : decode cX10_fieldText 41 = .ok (.ifCond .eq 25, 3) := by decide +kernel
theorem dX10_fieldText_44 : decode cX10_fieldText 44 = .ok (.aload_n 0, 1) := by decide +kernel
theorem dX10_fieldText_45 : decode cX10_fieldText 45 = .ok (.iconst 2, 1) := by decide +kernel
theorem dX10_fieldText_46 : decode cX10_fieldText 46 = .ok (.iconst 0, 1) := by decide +kernel
theorem dX10_fieldText_47 : decode cX10_fieldText 47 = .ok (.bipush 20, 2) := by decide +kernel
theorem dX10_fieldText_49 : decode cX10_fieldText 49 = .ok (.invokevirtual 223, 3) := by decide +kernel
theorem dX10_fieldText_52 : decode cX10_fieldText 52 = .ok (.ifCond .eq 14, 3) := by decide +kernel
theorem dX10_fieldText_55 : decode cX10_fieldText 55 = .ok (.aload_n 0, 1) := by decide +kernel
theorem dX10_fieldText_56 : decode cX10_fieldText 56 = .ok (.iconst 3, 1) := by decide +kernel
theorem dX10_fieldText_57 : decode cX10_fieldText 57 = .ok (.iconst 0, 1) := by decide +kernel
theorem dX10_fieldText_58 : decode cX10_fieldText 58 = .ok (.bipush 50, 2) := by decide +kernel
theorem dX10_fieldText_60 : decode cX10_fieldText 60 = .ok (.invokevirtual 223, 3) := by decide +kernel
theorem dX10_fieldText_63 : decode cX10_fieldText 63 = .ok (.ifCond .ne 5, 3) := by decide +kernel
theorem dX10_fieldText_66 : decode cX10_fieldText 66 = .ok (.iconst 0, 1) := by decide +kernel
theorem dX10_fieldText_67 : decode cX10_fieldText 67 = .ok (.ireturn, 1) := by decide +kernel
theorem dX10_fieldText_68 : decode cX10_fieldText 68 = .ok (.aload_n 0, 1) := by decide +kernel
theorem dX10_fieldText_69 : decode cX10_fieldText 69 = .ok (.aload_n 0, 1) := by decide +kernel
theorem dX10_fieldText_70 : decode cX10_fieldText 70 = .ok (.getfield 34, 3) := by decide +kernel
theorem dX10_fieldText_73 : decode cX10_fieldText 73 = .ok (.iconst 0, 1) := by decide +kernel
theorem dX10_fieldText_74 : decode cX10_fieldText 74 = .ok (.iaload, 1) := by decide +kernel
theorem dX10_fieldText_75 : decode cX10_fieldText 75 = .ok (.aload_n 0, 1) := by decide +kernel
theorem dX10_fieldText_76 : decode cX10_fieldText 76 = .ok (.getfield 34, 3) := by decide +kernel
theorem dX10_fieldText_79 : decode cX10_fieldText 79 = .ok (.iconst 1, 1) := by decide +kernel
theorem dX10_fieldText_80 : decode cX10_fieldText 80 = .ok (.iaload, 1) := by decide +kernel
theorem dX10_fieldText_81 : decode cX10_fieldText 81 = .ok (.aload_n 0, 1) := by decide +kernel
theorem dX10_fieldText_82 : decode cX10_fieldText 82 = .ok (.getfield 34, 3) := by decide +kernel
theorem dX10_fieldText_85 : decode cX10_fieldText 85 = .ok (.iconst 2, 1) := by decide +kernel
theorem dX10_fieldText_86 : decode cX10_fieldText 86 = .ok (.iaload, 1) := by decide +kernel
theorem dX10_fieldText_87 : decode cX10_fieldText 87 = .ok (.aload_n 0, 1) := by decide +kernel
theorem dX10_fieldText_88 : decode cX10_fieldText 88 = .ok (.getfield 34, 3) := by decide +kernel
theorem dX10_fieldText_91 : decode cX10_fieldText 91 = .ok (.iconst 3, 1) := by decide +kernel
theorem dX10_fieldText_92 : decode cX10_fieldText 92 = .ok (.iaload, 1) := by decide +kernel
theorem dX10_fieldText_93 : decode cX10_fieldText 93 = .ok (.invokevirtual 43, 3) := by decide +kernel
theorem dX10_fieldText_96 : decode cX10_fieldText 96 = .ok (.aload_n 0, 1) := by decide +kernel
theorem dX10_fieldText_97 : decode cX10_fieldText 97 = .ok (.invokevirtual 219, 3) := by decide +kernel
theorem dX10_fieldText_100 : decode cX10_fieldText 100 = .ok (.ireturn, 1) := by decide +kernel
theorem dX10_setup_0 : decode cX10_setup 0 = .ok (.aload_n 0, 1) := by decide +kernel
theorem dX10_setup_1 : decode cX10_setup 1 = .ok (.invokevirtual 40, 3) := by decide +kernel
theorem dX10_setup_4 : decode cX10_setup 4 = .ok (.aload_n 0, 1) := by decide +kernel
theorem dX10_setup_5 : decode cX10_setup 5 = .ok (.invokevirtual 232, 3) := by decide +kernel
theorem dX10_setup_8 : decode cX10_setup 8 = .ok (.ifCond .ne 5, 3) := by decide +kernel
theorem dX10_setup_11 : decode cX10_setup 11 = .ok (.iconst 0, 1) := by decide +kernel
theorem dX10_setup_12 : decode cX10_setup 12 = .ok (.ireturn, 1) := by decide +kernel
theorem dX10_setup_13 : decode cX10_setup 13 = .ok (.aload_n 0, 1) := by decide +kernel
theorem dX10_setup_14 : decode cX10_setup 14 = .ok (.invokevirtual 210, 3) := by decide +kernel
theorem dX10_setup_17 : decode cX10_setup 17 = .ok (.aload_n 0, 1) := by decide +kernel
theorem dX10_setup_18 : decode cX10_setup 18 = .ok (.ldc2_w 235, 3) := by decide +kernel
theorem dX10_setup_21 : decode cX10_setup 21 = .ok (.invokevirtual 228, 3) := by decide +kernel
theorem dX10_setup_24 : decode cX10_setup 24 = .ok (.ifCond .ne 9, 3) := by decide +kernel
theorem dX10_setup_27 : decode cX10_setup 27 = .ok (.aload_n 0, 1) := by decide +kernel
theorem dX10_setup_28 : decode cX10_setup 28 = .ok (.iconst 1, 1) := by decide +kernel
theorem dX10_setup_29 : decode cX10_setup 29 = .ok (.invokevirtual 213, 3) := by decide +kernel
theorem dX10_setup_32 : decode cX10_setup 32 = .ok (.ireturn, 1) := by decide +kernel
theorem dX10_setup_33 : decode cX10_setup 33 = .ok (.aload_n 0, 1) := by decide +kernel
theorem dX10_setup_34 : decode cX10_setup 34 = .ok (.ldc2_w 235, 3) := by decide +kernel
theorem dX10_setup_37 : decode cX10_setup 37 = .ok (.invokevirtual 228, 3) := by decide +kernel
theorem dX10_setup_40 : decode cX10_setup 40 = .ok (.ifCond .eq 19, 3) := by decide +kernel
theorem dX10_setup_43 : decode cX10_setup 43 = .ok (.aload_n 0, 1) := by decide +kernel
theorem dX10_setup_44 : decode cX10_setup 44 = .ok (.invokevirtual 237, 3) := by decide +kernel
theorem dX10_setup_47 : decode cX10_setup 47 = .ok (.ifCond .ne 5, 3) := by decide +kernel
theorem dX10_setup_50 : decode cX10_setup 50 = .ok (.iconst 0, 1) := by decide +kernel
theorem dX10_setup_51 : decode cX10_setup 51 = .ok (.ireturn, 1) := by decide +kernel
theorem dX10_setup_52 : decode cX10_setup 52 = .ok (.aload_n 0, 1) := by decide +kernel
theorem dX10_setup_53 : decode cX10_setup 53 = .ok (.invokevirtual 210, 3) := by decide +kernel
theorem dX10_setup_56 : decode cX10_setup 56 = .ok (.goto (-23), 3) := by decide +kernel
theorem dX10_setup_59 : decode cX10_setup 59 = .ok (.aload_n 0, 1) := by decide +kernel
theorem dX10_setup_60 : decode cX10_setup 60 = .ok (.ldc2_w 240, 3) := by decide +kernel
theorem dX10_setup_63 : decode cX10_setup 63 = .ok (.invokevirtual 228, 3) := by decide +kernel
theorem dX10_setup_66 : decode cX10_setup 66 = .ok (.ifCond .ne 9, 3) := by decide +kernel
theorem dX10_setup_69 : decode cX10_setup 69 = .ok (.aload_n 0, 1) := by decide +kernel
theorem dX10_setup_70 : decode cX10_setup 70 = .ok (.iconst 1, 1) := by decide +kernel
theorem dX10_setup_71 : decode cX10_setup 71 = .ok (.invokevirtual 213, 3) := by decide +kernel
theorem dX10_setup_74 : decode cX10_setup 74 = .ok (.ireturn, 1) := by decide +kernel
theorem dX10_setup_75 : decode cX10_setup 75 = .ok (.aload_n 0, 1) := by decide +kernel
theorem dX10_setup_76 : decode cX10_setup 76 = .ok (.ldc2_w 240, 3) := by decide +kernel
theorem dX10_setup_79 : decode cX10_setup 79 = .ok (.invokevirtual 228, 3) := by decide +kernel
theorem dX10_setup_82 : decode cX10_setup 82 = .ok (.ifCond .eq 19, 3) := by decide +kernel
theorem dX10_setup_85 : decode cX10_setup 85 = .ok (.aload_n 0, 1) := by decide +kernel
theorem dX10_setup_86 : decode cX10_setup 86 = .ok (.invokevirtual 242, 3) := by decide +kernel
theorem dX10_setup_89 : decode cX10_setup 89 = .ok (.ifCond .ne 5, 3) := by decide +kernel
theorem dX10_setup_92 : decode cX10_setup 92 = .ok (.iconst 0, 1) := by decide +kernel
theorem dX10_setup_93 : decode cX10_setup 93 = .ok (.ireturn, 1) := by decide +kernel
theorem dX10_setup_94 : decode cX10_setup 94 = .ok (.aload_n 0, 1) := by decide +kernel
theorem dX10_setup_95 : decode cX10_setup 95 = .ok (.invokevirtual 210, 3) := by decide +kernel
theorem dX10_setup_98 : decode cX10_setup 98 = .ok (.goto (-23), 3) := by decide +kernel
theorem dX10_setup_101 : decode cX10_setup 101 = .ok (.aload_n 0, 1) := by decide +kernel
theorem dX10_setup_102 : decode cX10_setup 102 = .ok (.ldc2_w 245, 3) := by decide +kernel
theorem dX10_setup_105 : decode cX10_setup 105 = .ok (.invokevirtual 228, 3) := by decide +kernel
theorem dX10_setup_108 : decode cX10_setup 108 = .ok (.ifCond .eq 19, 3) := by decide +kernel
theorem dX10_setup_111 : decode cX10_setup 111 = .ok (.aload_n 0, 1) := by decide +kernel
theorem dX10_setup_112 : decode cX10_setup 112 = .ok (.invokevirtual 247, 3) := by decide +kernel
theorem dX10_setup_115 : decode cX10_setup 115 = .ok (.ifCond .ne 5, 3) := by decide +kernel
theorem dX10_setup_118 : decode cX10_setup 118 = .ok (.iconst 0, 1) := by decide +kernel
theorem dX10_setup_119 : decode cX10_setup 119 = .ok (.ireturn, 1) := by decide +kernel
theorem dX10_setup_120 : decode cX10_setup 120 = .ok (.aload_n 0, 1) := by decide +kernel
theorem dX10_setup_121 : decode cX10_setup 121 = .ok (.invokevirtual 210, 3) := by decide +kernel
theorem dX10_setup_124 : decode cX10_setup 124 = .ok (.goto (-23), 3) := by decide +kernel
theorem dX10_setup_127 : decode cX10_setup 127 = .ok (.aload_n 0, 1) := by decide +kernel
theorem dX10_setup_128 : decode cX10_setup 128 = .ok (.getfield 185, 3) := by decide +kernel
theorem dX10_setup_131 : decode cX10_setup 131 = .ok (.ifCond .eq 11, 3) := by decide +kernel
theorem dX10_setup_134 : decode cX10_setup 134 = .ok (.aload_n 0, 1) := by decide +kernel
theorem dX10_setup_135 : decode cX10_setup 135 = .ok (.iconst 1, 1) := by decide +kernel
theorem dX10_setup_136 : decode cX10_setup 136 = .ok (.invokevirtual 213, 3) := by decide +kernel
theorem dX10_setup_139 : decode cX10_setup 139 = .ok (.ifCond .eq 7, 3) := by decide +kernel
theorem dX10_setup_142 : decode cX10_setup 142 = .ok (.iconst 1, 1) := by decide +kernel
theorem dX10_setup_143 : decode cX10_setup 143 = .ok (.goto 4, 3) := by decide +kernel
theorem dX10_setup_146 : decode cX10_setup 146 = .ok (.iconst 0, 1) := by decide +kernel
theorem dX10_setup_147 : decode cX10_setup 147 = .ok (.ireturn, 1) := by decide +kernel
theorem dX10_verb_0 : decode cX10_verb 0 = .ok (.aload_n 0, 1) := by decide +kernel
theorem dX10_verb_1 : decode cX10_verb 1 = .ok (.ldc2_w 250, 3) := by decide +kernel
theorem dX10_verb_4 : decode cX10_verb 4 = .ok (.invokevirtual 228, 3) := by decide +kernel
theorem dX10_verb_7 : decode cX10_verb 7 = .ok (.ifCond .eq 5, 3) := by decide +kernel
theorem dX10_verb_10 : decode cX10_verb 10 = .ok (.iconst 0, 1) := by decide +kernel
theorem dX10_verb_11 : decode cX10_verb 11 = .ok (.ireturn, 1) := by decide +kernel
theorem dX10_verb_12 : decode cX10_verb 12 = .ok (.aload_n 0, 1) := by decide +kernel
theorem dX10_verb_13 : decode cX10_verb 13 = .ok (.ldc2_w 252, 3) := by decide +kernel
theorem dX10_verb_16 : decode cX10_verb 16 = .ok (.invokevirtual 228, 3) := by decide +kernel
theorem dX10_verb_19 : decode cX10_verb 19 = .ok (.ifCond .eq 5, 3) := by decide +kernel
theorem dX10_verb_22 : decode cX10_verb 22 = .ok (.iconst 1, 1) := by decide +kernel
theorem dX10_verb_23 : decode cX10_verb 23 = .ok (.ireturn, 1) := by decide +kernel
theorem dX10_verb_24 : decode cX10_verb 24 = .ok (.aload_n 0, 1) := by decide +kernel
theorem dX10_verb_25 : decode cX10_verb 25 = .ok (.ldc2_w 254, 3) := by decide +kernel
theorem dX10_verb_28 : decode cX10_verb 28 = .ok (.invokevirtual 228, 3) := by decide +kernel
theorem dX10_verb_31 : decode cX10_verb 31 = .ok (.ifCond .eq 5, 3) := by decide +kernel
theorem dX10_verb_34 : decode cX10_verb 34 = .ok (.iconst 2, 1) := by decide +kernel
theorem dX10_verb_35 : decode cX10_verb 35 = .ok (.ireturn, 1) := by decide +kernel
theorem dX10_verb_36 : decode cX10_verb 36 = .ok (.aload_n 0, 1) := by decide +kernel
theorem dX10_verb_37 : decode cX10_verb 37 = .ok (.ldc2_w 256, 3) := by decide +kernel
theorem dX10_verb_40 : decode cX10_verb 40 = .ok (.invokevirtual 228, 3) := by decide +kernel
theorem dX10_verb_43 : decode cX10_verb 43 = .ok (.ifCond .eq 5, 3) := by decide +kernel
theorem dX10_verb_46 : decode cX10_verb 46 = .ok (.iconst 3, 1) := by decide +kernel
theorem dX10_verb_47 : decode cX10_verb 47 = .ok (.ireturn, 1) := by decide +kernel
theorem dX10_verb_48 : decode cX10_verb 48 = .ok (.aload_n 0, 1) := by decide +kernel
theorem dX10_verb_49 : decode cX10_verb 49 = .ok (.ldc2_w 258, 3) := by decide +kernel
theorem dX10_verb_52 : decode cX10_verb 52 = .ok (.invokevirtual 228, 3) := by decide +kernel
theorem dX10_verb_55 : decode cX10_verb 55 = .ok (.ifCond .eq 5, 3) := by decide +kernel
theorem dX10_verb_58 : decode cX10_verb 58 = .ok (.iconst 4, 1) := by decide +kernel
theorem dX10_verb_59 : decode cX10_verb 59 = .ok (.ireturn, 1) := by decide +kernel
theorem dX10_verb_60 : decode cX10_verb 60 = .ok (.aload_n 0, 1) := by decide +kernel
theorem dX10_verb_61 : decode cX10_verb 61 = .ok (.ldc2_w 260, 3) := by decide +kernel
theorem dX10_verb_64 : decode cX10_verb 64 = .ok (.invokevirtual 228, 3) := by decide +kernel
theorem dX10_verb_67 : decode cX10_verb 67 = .ok (.ifCond .eq 5, 3) := by decide +kernel
theorem dX10_verb_70 : decode cX10_verb 70 = .ok (.iconst 5, 1) := by decide +kernel
theorem dX10_verb_71 : decode cX10_verb 71 = .ok (.ireturn, 1) := by decide +kernel
theorem dX10_verb_72 : decode cX10_verb 72 = .ok (.aload_n 0, 1) := by decide +kernel
theorem dX10_verb_73 : decode cX10_verb 73 = .ok (.ldc2_w 262, 3) := by decide +kernel
theorem dX10_verb_76 : decode cX10_verb 76 = .ok (.invokevirtual 228, 3) := by decide +kernel
theorem dX10_verb_79 : decode cX10_verb 79 = .ok (.ifCond .eq 6, 3) := by decide +kernel
theorem dX10_verb_82 : decode cX10_verb 82 = .ok (.bipush 6, 2) := by decide +kernel
theorem dX10_verb_84 : decode cX10_verb 84 = .ok (.ireturn, 1) := by decide +kernel
theorem dX10_verb_85 : decode cX10_verb 85 = .ok (.aload_n 0, 1) := by decide +kernel
theorem dX10_verb_86 : decode cX10_verb 86 = .ok (.ldc2_w 264, 3) := by decide +kernel
theorem dX10_verb_89 : decode cX10_verb 89 = .ok (.invokevirtual 228, 3) := by decide +kernel
theorem dX10_verb_92 : decode cX10_verb 92 = .ok (.ifCond .eq 8, 3) := by decide +kernel
theorem dX10_verb_95 : decode cX10_verb 95 = .ok (.bipush 7, 2) := by decide +kernel
theorem dX10_verb_97 : decode cX10_verb 97 = .ok (.goto 4, 3) := by decide +kernel
theorem dX10_verb_100 : decode cX10_verb 100 = .ok (.iconst (-1), 1) := by decide +kernel
theorem dX10_verb_101 : decode cX10_verb 101 = .ok (.ireturn, 1) := by decide +kernel
theorem dX10_rest_0 : decode cX10_rest 0 = .ok (.iload_n 1, 1) := by decide +kernel
theorem dX10_rest_1 : decode cX10_rest 1 = .ok (.iconst 2, 1) := by decide +kernel
theorem dX10_rest_2 : decode cX10_rest 2 = .ok (.if_icmp .ne 12, 3) := by decide +kernel
theorem dX10_rest_5 : decode cX10_rest 5 = .ok (.aload_n 0, 1) := by decide +kernel
theorem dX10_rest_6 : decode cX10_rest 6 = .ok (.iload_n 2, 1) := by decide +kernel
theorem dX10_rest_7 : decode cX10_rest 7 = .ok (.iconst 1, 1) := by decide +kernel
theorem dX10_rest_8 : decode cX10_rest 8 = .ok (.bipush 48, 2) := by decide +kernel
theorem dX10_rest_10 : decode cX10_rest 10 = .ok (.invokevirtual 223, 3) := by decide +kernel
theorem dX10_rest_13 : decode cX10_rest 13 = .ok (.ireturn, 1) := by decide +kernel
theorem dX10_rest_14 : decode cX10_rest 14 = .ok (.aload_n 0, 1) := by decide +kernel
theorem dX10_rest_15 : decode cX10_rest 15 = .ok (.iload_n 2, 1) := by decide +kernel
theorem dX10_rest_16 : decode cX10_rest 16 = .ok (.iconst 0, 1) := by decide +kernel
theorem dX10_rest_17 : decode cX10_rest 17 = .ok (.bipush 15, 2) := by decide +kernel
theorem dX10_rest_19 : decode cX10_rest 19 = .ok (.invokevirtual 223, 3) := by decide +kernel
theorem dX10_rest_22 : decode cX10_rest 22 = .ok (.ifCond .ne 5, 3) := by decide +kernel
theorem dX10_rest_25 : decode cX10_rest 25 = .ok (.iconst 0, 1) := by decide +kernel
theorem dX10_rest_26 : decode cX10_rest 26 = .ok (.ireturn, 1) := by decide +kernel
theorem dX10_rest_27 : decode cX10_rest 27 = .ok (.iload_n 1, 1) := by decide +kernel
theorem dX10_rest_28 : decode cX10_rest 28 = .ok (.iconst 3, 1) := by decide +kernel
theorem dX10_rest_29 : decode cX10_rest 29 = .ok (.if_icmp .ne 35, 3) := by decide +kernel
theorem dX10_rest_32 : decode cX10_rest 32 = .ok (.aload_n 0, 1) := by decide +kernel
theorem dX10_rest_33 : decode cX10_rest 33 = .ok (.iload_n 2, 1) := by decide +kernel
theorem dX10_rest_34 : decode cX10_rest 34 = .ok (.iconst 1, 1) := by decide +kernel
theorem dX10_rest_35 : decode cX10_rest 35 = .ok (.iadd, 1) := by decide +kernel
theorem dX10_rest_36 : decode cX10_rest 36 = .ok (.iconst 0, 1) := by decide +kernel
theorem dX10_rest_37 : decode cX10_rest 37 = .ok (.ldc 74, 2) := by decide +kernel
theorem dX10_rest_39 : decode cX10_rest 39 = .ok (.invokevirtual 223, 3) := by decide +kernel
theorem dX10_rest_42 : decode cX10_rest 42 = .ok (.ifCond .eq 20, 3) := by decide +kernel
theorem dX10_rest_45 : decode cX10_rest 45 = .ok (.aload_n 0, 1) := by decide +kernel
theorem dX10_rest_46 : decode cX10_rest 46 = .ok (.iload_n 2, 1) := by decide +kernel
theorem dX10_rest_47 : decode cX10_rest 47 = .ok (.iconst 2, 1) := by decide +kernel
theorem dX10_rest_48 : decode cX10_rest 48 = .ok (.iadd, 1) := by decide +kernel
theorem dX10_rest_49 : decode cX10_rest 49 = .ok (.iconst 1, 1) := by decide +kernel
theorem dX10_rest_50 : decode cX10_rest 50 = .ok (.bipush 24, 2) := by decide +kernel
theorem dX10_rest_52 : decode cX10_rest 52 = .ok (.invokevirtual 223, 3) := by decide +kernel
theorem dX10_rest_55 : decode cX10_rest 55 = .ok (.ifCond .eq 7, 3) := by decide +kernel
theorem dX10_rest_58 : decode cX10_rest 58 = .ok (.iconst 1, 1) := by decide +kernel
theorem dX10_rest_59 : decode cX10_rest 59 = .ok (.goto 4, 3) := by decide +kernel
theorem dX10_rest_62 : decode cX10_rest 62 = .ok (.iconst 0, 1) := by decide +kernel
theorem dX10_rest_63 : decode cX10_rest 63 = .ok (.ireturn, 1) := by decide +kernel
theorem dX10_rest_64 : decode cX10_rest 64 = .ok (.iload_n 1, 1) := by decide +kernel
theorem dX10_rest_65 : decode cX10_rest 65 = .ok (.iconst 5, 1) := by decide +kernel
theorem dX10_rest_66 : decode cX10_rest 66 = .ok (.if_icmp .ne 14, 3) := by decide +kernel
theorem dX10_rest_69 : decode cX10_rest 69 = .ok (.aload_n 0, 1) := by decide +kernel
theorem dX10_rest_70 : decode cX10_rest 70 = .ok (.iload_n 2, 1) := by decide +kernel
theorem dX10_rest_71 : decode cX10_rest 71 = .ok (.iconst 1, 1) := by decide +kernel
theorem dX10_rest_72 : decode cX10_rest 72 = .ok (.iadd, 1) := by decide +kernel
theorem dX10_rest_73 : decode cX10_rest 73 = .ok (.iconst 0, 1) := by decide +kernel
theorem dX10_rest_74 : decode cX10_rest 74 = .ok (.bipush 9, 2) := by decide +kernel
theorem dX10_rest_76 : decode cX10_rest 76 = .ok (.invokevirtual 223, 3) := by decide +kernel
theorem dX10_rest_79 : decode cX10_rest 79 = .ok (.ireturn, 1) := by decide +kernel
theorem dX10_rest_80 : decode cX10_rest 80 = .ok (.iload_n 1, 1) := by decide +kernel
theorem dX10_rest_81 : decode cX10_rest 81 = .ok (.bipush 7, 2) := by decide +kernel
theorem dX10_rest_83 : decode cX10_rest 83 = .ok (.if_icmp .ne 17, 3) := by decide +kernel
theorem dX10_rest_86 : decode cX10_rest 86 = .ok (.aload_n 0, 1) := by decide +kernel
theorem dX10_rest_87 : decode cX10_rest 87 = .ok (.iload_n 2, 1) := by decide +kernel
theorem dX10_rest_88 : decode cX10_rest 88 = .ok (.iconst 1, 1) := by decide +kernel
theorem dX10_rest_89 : decode cX10_rest 89 = .ok (.iadd, 1) := by decide +kernel
theorem dX10_rest_90 : decode cX10_rest 90 = .ok (.iconst 1, 1) := by decide +kernel
theorem dX10_rest_91 : decode cX10_rest 91 = .ok (.sipush 999, 3) := by decide +kernel
theorem dX10_rest_94 : decode cX10_rest 94 = .ok (.invokevirtual 223, 3) := by decide +kernel
theorem dX10_rest_97 : decode cX10_rest 97 = .ok (.ifCond .eq 7, 3) := by decide +kernel
theorem dX10_rest_100 : decode cX10_rest 100 = .ok (.iconst 1, 1) := by decide +kernel
theorem dX10_rest_101 : decode cX10_rest 101 = .ok (.goto 4, 3) := by decide +kernel
theorem dX10_rest_104 : decode cX10_rest 104 = .ok (.iconst 0, 1) := by decide +kernel
theorem dX10_rest_105 : decode cX10_rest 105 = .ok (.ireturn, 1) := by decide +kernel
theorem dX10_script_0 : decode cX10_script 0 = .ok (.aload_n 0, 1) := by decide +kernel
theorem dX10_script_1 : decode cX10_script 1 = .ok (.iconst 0, 1) := by decide +kernel
theorem dX10_script_2 : decode cX10_script 2 = .ok (.putfield 266, 3) := by decide +kernel
theorem dX10_script_5 : decode cX10_script 5 = .ok (.aload_n 0, 1) := by decide +kernel
theorem dX10_script_6 : decode cX10_script 6 = .ok (.invokevirtual 210, 3) := by decide +kernel
theorem dX10_script_9 : decode cX10_script 9 = .ok (.aload_n 0, 1) := by decide +kernel
theorem dX10_script_10 : decode cX10_script 10 = .ok (.getfield 185, 3) := by decide +kernel
theorem dX10_script_13 : decode cX10_script 13 = .ok (.ifCond .ne 5, 3) := by decide +kernel
theorem dX10_script_16 : decode cX10_script 16 = .ok (.iconst 1, 1) := by decide +kernel
theorem dX10_script_17 : decode cX10_script 17 = .ok (.ireturn, 1) := by decide +kernel
theorem dX10_script_18 : decode cX10_script 18 = .ok (.aload_n 0, 1) := by decide +kernel
theorem dX10_script_19 : decode cX10_script 19 = .ok (.invokevirtual 269, 3) := by decide +kernel
theorem dX10_script_22 : decode cX10_script 22 = .ok (.istore_n 1, 1) := by decide +kernel
theorem dX10_script_23 : decode cX10_script 23 = .ok (.iload_n 1, 1) := by decide +kernel
theorem dX10_script_24 : decode cX10_script 24 = .ok (.ifCond .ge 9, 3) := by decide +kernel
theorem dX10_script_27 : decode cX10_script 27 = .ok (.aload_n 0, 1) := by decide +kernel
theorem dX10_script_28 : decode cX10_script 28 = .ok (.iconst 1, 1) := by decide +kernel
theorem dX10_script_29 : decode cX10_script 29 = .ok (.invokevirtual 213, 3) := by decide +kernel
theorem dX10_script_32 : decode cX10_script 32 = .ok (.ireturn, 1) := by decide +kernel
theorem dX10_script_33 : decode cX10_script 33 = .ok (.aload_n 0, 1) := by decide +kernel
theorem dX10_script_34 : decode cX10_script 34 = .ok (.getfield 266, 3) := by decide +kernel
theorem dX10_script_37 : decode cX10_script 37 = .ok (.bipush 20, 2) := by decide +kernel
theorem dX10_script_39 : decode cX10_script 39 = .ok (.if_icmp .ne 9, 3) := by decide +kernel
theorem dX10_script_42 : decode cX10_script 42 = .ok (.aload_n 0, 1) := by decide +kernel
theorem dX10_script_43 : decode cX10_script 43 = .ok (.iconst 3, 1) := by decide +kernel
theorem dX10_script_44 : decode cX10_script 44 = .ok (.invokevirtual 213, 3) := by decide +kernel
theorem dX10_script_47 : decode cX10_script 47 = .ok (.ireturn, 1) := by decide +kernel
theorem dX10_script_48 : decode cX10_script 48 = .ok (.aload_n 0, 1) := by decide +kernel
theorem dX10_script_49 : decode cX10_script 49 = .ok (.dup, 1) := by decide +kernel
theorem dX10_script_50 : decode cX10_script 50 = .ok (.getfield 266, 3) := by decide +kernel
theorem dX10_script_53 : decode cX10_script 53 = .ok (.dup_x1, 1) := by decide +kernel
theorem dX10_script_54 : decode cX10_script 54 = .ok (.iconst 1, 1) := by decide +kernel
theorem dX10_script_55 : decode cX10_script 55 = .ok (.iadd, 1) := by decide +kernel
theorem dX10_script_56 : decode cX10_script 56 = .ok (.putfield 266, 3) := by decide +kernel
theorem dX10_script_59 : decode cX10_script 59 = .ok (.istore_n 2, 1) := by decide +kernel
theorem dX10_script_60 : decode cX10_script 60 = .ok (.aload_n 0, 1) := by decide +kernel
theorem dX10_script_61 : decode cX10_script 61 = .ok (.getfield 31, 3) := by decide +kernel
theorem dX10_script_64 : decode cX10_script 64 = .ok (.iload_n 2, 1) := by decide +kernel
theorem dX10_script_65 : decode cX10_script 65 = .ok (.iload_n 1, 1) := by decide +kernel
theorem dX10_script_66 : decode cX10_script 66 = .ok (.iastore, 1) := by decide +kernel
theorem dX10_script_67 : decode cX10_script 67 = .ok (.aload_n 0, 1) := by decide +kernel
theorem dX10_script_68 : decode cX10_script 68 = .ok (.iload_n 1, 1) := by decide +kernel
theorem dX10_script_69 : decode cX10_script 69 = .ok (.iconst 3, 1) := by decide +kernel
theorem dX10_script_70 : decode cX10_script 70 = .ok (.iload_n 2, 1) := by decide +kernel
theorem dX10_script_71 : decode cX10_script 71 = .ok (.imul, 1) := by decide +kernel
theorem dX10_script_72 : decode cX10_script 72 = .ok (.invokevirtual 272, 3) := by decide +kernel
theorem dX10_script_75 : decode cX10_script 75 = .ok (.ifCond .eq 10, 3) := by decide +kernel
theorem dX10_script_78 : decode cX10_script 78 = .ok (.aload_n 0, 1) := by decide +kernel
theorem dX10_script_79 : decode cX10_script 79 = .ok (.invokevirtual 219, 3) := by decide +kernel
theorem dX10_script_82 : decode cX10_script 82 = .ok (.ifCond .ne 5, 3) := by decide +kernel
theorem dX10_script_85 : decode cX10_script 85 = .ok (.iconst 0, 1) := by decide +kernel
theorem dX10_script_86 : decode cX10_script 86 = .ok (.ireturn, 1) := by decide +kernel
theorem dX10_script_87 : decode cX10_script 87 = .ok (.goto (-82), 3) := by decide +kernel
theorem dX10_does_0 : decode cX10_does 0 = .ok (.aload_n 0, 1) := by decide +kernel
theorem dX10_does_1 : decode cX10_does 1 = .ok (.getfield 34, 3) := by decide +kernel
theorem dX10_does_4 : decode cX10_does 4 = .ok (.iconst 3, 1) := by decide +kernel
theorem dX10_does_5 : decode cX10_does 5 = .ok (.iload_n 1, 1) := by decide +kernel
theorem dX10_does_6 : decode cX10_does 6 = .ok (.imul, 1) := by decide +kernel
theorem dX10_does_7 : decode cX10_does 7 = .ok (.iaload, 1) := by decide +kernel
theorem dX10_does_8 : decode cX10_does 8 = .ok (.istore_n 2, 1) := by decide +kernel
theorem dX10_does_9 : decode cX10_does 9 = .ok (.aload_n 0, 1) := by decide +kernel
theorem dX10_does_10 : decode cX10_does 10 = .ok (.getfield 34, 3) := by decide +kernel
theorem dX10_does_13 : decode cX10_does 13 = .ok (.iconst 3, 1) := by decide +kernel
theorem dX10_does_14 : decode cX10_does 14 = .ok (.iload_n 1, 1) := by decide +kernel
theorem dX10_does_15 : decode cX10_does 15 = .ok (.imul, 1) := by decide +kernel
theorem dX10_does_16 : decode cX10_does 16 = .ok (.iconst 1, 1) := by decide +kernel
theorem dX10_does_17 : decode cX10_does 17 = .ok (.iadd, 1) := by decide +kernel
theorem dX10_does_18 : decode cX10_does 18 = .ok (.iaload, 1) := by decide +kernel
theorem dX10_does_19 : decode cX10_does 19 = .ok (.istore_n 3, 1) := by decide +kernel
theorem dX10_does_20 : decode cX10_does 20 = .ok (.aload_n 0, 1) := by decide +kernel
theorem dX10_does_21 : decode cX10_does 21 = .ok (.getfield 34, 3) := by decide +kernel
theorem dX10_does_24 : decode cX10_does 24 = .ok (.iconst 3, 1) := by decide +kernel
theorem dX10_does_25 : decode cX10_does 25 = .ok (.iload_n 1, 1) := by decide +kernel
theorem dX10_does_26 : decode cX10_does 26 = .ok (.imul, 1) := by decide +kernel
theorem dX10_does_27 : decode cX10_does 27 = .ok (.iconst 2, 1) := by decide +kernel
theorem dX10_does_28 : decode cX10_does 28 = .ok (.iadd, 1) := by decide +kernel
theorem dX10_does_29 : decode cX10_does 29 = .ok (.iaload, 1) := by decide +kernel
theorem dX10_does_30 : decode cX10_does 30 = .ok (.istore 4, 2) := by decide +kernel
theorem dX10_does_32 : decode cX10_does 32 = .ok (.aload_n 0, 1) := by decide +kernel
theorem dX10_does_33 : decode cX10_does 33 = .ok (.getfield 31, 3) := by decide +kernel
theorem dX10_does_36 : decode cX10_does 36 = .ok (.iload_n 1, 1) := by decide +kernel
theorem dX10_does_37 : decode cX10_does 37 = .ok (.iaload, 1) := by decide +kernel
theorem dX10_does_38 : decode cX10_does 38 = .ok (.iconst 2, 1) := by decide +kernel
theorem dX10_does_39 : decode cX10_does 39 = .ok (.if_icmp .ne 11, 3) := by decide +kernel
theorem dX10_does_42 : decode cX10_does 42 = .ok (.aload_n 0, 1) := by decide +kernel
theorem dX10_does_43 : decode cX10_does 43 = .ok (.iload_n 2, 1) := by decide +kernel
theorem dX10_does_44 : decode cX10_does 44 = .ok (.invokevirtual 275, 3) := by decide +kernel
theorem dX10_does_47 : decode cX10_does 47 = .ok (.pop, 1) := by decide +kernel
theorem dX10_does_48 : decode cX10_does 48 = .ok (.iconst 1, 1) := by decide +kernel
theorem dX10_does_49 : decode cX10_does 49 = .ok (.ireturn, 1) := by decide +kernel
theorem dX10_does_50 : decode cX10_does 50 = .ok (.aload_n 0, 1) := by decide +kernel
theorem dX10_does_51 : decode cX10_does 51 = .ok (.iload_n 2, 1) := by decide +kernel
theorem dX10_does_52 : decode cX10_does 52 = .ok (.invokevirtual 278, 3) := by decide +kernel
theorem dX10_does_55 : decode cX10_does 55 = .ok (.ifCond .ne 5, 3) := by decide +kernel
theorem dX10_does_58 : decode cX10_does 58 = .ok (.iconst 0, 1) := by decide +kernel
theorem dX10_does_59 : decode cX10_does 59 = .ok (.ireturn, 1) := by decide +kernel
theorem dX10_does_60 : decode cX10_does 60 = .ok (.aload_n 0, 1) := by decide +kernel
theorem dX10_does_61 : decode cX10_does 61 = .ok (.getfield 31, 3) := by decide +kernel
theorem dX10_does_64 : decode cX10_does 64 = .ok (.iload_n 1, 1) := by decide +kernel
theorem dX10_does_65 : decode cX10_does 65 = .ok (.iaload, 1) := by decide +kernel
theorem dX10_does_66 : decode cX10_does 66 = .ok (.tableswitch 152 0 6 #[42, 60, 152, 81, 105, 113, 134], 42) := by decide +kernel
theorem dX10_does_108 : decode cX10_does 108 = .ok (.aload_n 0, 1) := by decide +kernel
theorem dX10_does_109 : decode cX10_does 109 = .ok (.iload_n 2, 1) := by decide +kernel
theorem dX10_does_110 : decode cX10_does 110 = .ok (.invokevirtual 281, 3) := by decide +kernel
theorem dX10_does_113 : decode cX10_does 113 = .ok (.ifCond .ne 5, 3) := by decide +kernel
theorem dX10_does_116 : decode cX10_does 116 = .ok (.iconst 0, 1) := by decide +kernel
theorem dX10_does_117 : decode cX10_does 117 = .ok (.ireturn, 1) := by decide +kernel
theorem dX10_does_118 : decode cX10_does 118 = .ok (.aload_n 0, 1) := by decide +kernel
theorem dX10_does_119 : decode cX10_does 119 = .ok (.iload_n 2, 1) := by decide +kernel
theorem dX10_does_120 : decode cX10_does 120 = .ok (.invokevirtual 284, 3) := by decide +kernel
theorem dX10_does_123 : decode cX10_does 123 = .ok (.pop, 1) := by decide +kernel
theorem dX10_does_124 : decode cX10_does 124 = .ok (.iconst 1, 1) := by decide +kernel
theorem dX10_does_125 : decode cX10_does 125 = .ok (.ireturn, 1) := by decide +kernel
theorem dX10_does_126 : decode cX10_does 126 = .ok (.aload_n 0, 1) := by decide +kernel
theorem dX10_does_127 : decode cX10_does 127 = .ok (.iload_n 2, 1) := by decide +kernel
theorem dX10_does_128 : decode cX10_does 128 = .ok (.bipush 6, 2) := by decide +kernel
theorem dX10_does_130 : decode cX10_does 130 = .ok (.invokevirtual 79, 3) := by decide +kernel
theorem dX10_does_133 : decode cX10_does 133 = .ok (.iconst 1, 1) := by decide +kernel
theorem dX10_does_134 : decode cX10_does 134 = .ok (.if_icmp .eq 5, 3) := by decide +kernel
theorem dX10_does_137 : decode cX10_does 137 = .ok (.iconst 0, 1) := by decide +kernel
theorem dX10_does_138 : decode cX10_does 138 = .ok (.ireturn, 1) := by decide +kernel
theorem dX10_does_139 : decode cX10_does 139 = .ok (.aload_n 0, 1) := by decide +kernel
theorem dX10_does_140 : decode cX10_does 140 = .ok (.iload_n 2, 1) := by decide +kernel
theorem dX10_does_141 : decode cX10_does 141 = .ok (.invokevirtual 287, 3) := by decide +kernel
theorem dX10_does_144 : decode cX10_does 144 = .ok (.pop, 1) := by decide +kernel
theorem dX10_does_145 : decode cX10_does 145 = .ok (.iconst 1, 1) := by decide +kernel
theorem dX10_does_146 : decode cX10_does 146 = .ok (.ireturn, 1) := by decide +kernel
theorem dX10_does_147 : decode cX10_does 147 = .ok (.aload_n 0, 1) := by decide +kernel
theorem dX10_does_148 : decode cX10_does 148 = .ok (.iload_n 2, 1) := by decide +kernel
theorem dX10_does_149 : decode cX10_does 149 = .ok (.iload_n 3, 1) := by decide +kernel
theorem dX10_does_150 : decode cX10_does 150 = .ok (.iload 4, 2) := by decide +kernel
theorem dX10_does_152 : decode cX10_does 152 = .ok (.invokevirtual 290, 3) := by decide +kernel
theorem dX10_does_155 : decode cX10_does 155 = .ok (.ifCond .le 5, 3) := by decide +kernel
theorem dX10_does_158 : decode cX10_does 158 = .ok (.iconst 0, 1) := by decide +kernel
theorem dX10_does_159 : decode cX10_does 159 = .ok (.ireturn, 1) := by decide +kernel
theorem dX10_does_160 : decode cX10_does 160 = .ok (.aload_n 0, 1) := by decide +kernel
theorem dX10_does_161 : decode cX10_does 161 = .ok (.iload_n 2, 1) := by decide +kernel
theorem dX10_does_162 : decode cX10_does 162 = .ok (.iload_n 3, 1) := by decide +kernel
theorem dX10_does_163 : decode cX10_does 163 = .ok (.iload 4, 2) := by decide +kernel
theorem dX10_does_165 : decode cX10_does 165 = .ok (.invokevirtual 293, 3) := by decide +kernel
theorem dX10_does_168 : decode cX10_does 168 = .ok (.pop, 1) := by decide +kernel
theorem dX10_does_169 : decode cX10_does 169 = .ok (.iconst 1, 1) := by decide +kernel
theorem dX10_does_170 : decode cX10_does 170 = .ok (.ireturn, 1) := by decide +kernel
theorem dX10_does_171 : decode cX10_does 171 = .ok (.aload_n 0, 1) := by decide +kernel
theorem dX10_does_172 : decode cX10_does 172 = .ok (.iload_n 2, 1) := by decide +kernel
theorem dX10_does_173 : decode cX10_does 173 = .ok (.invokevirtual 172, 3) := by decide +kernel
theorem dX10_does_176 : decode cX10_does 176 = .ok (.pop, 1) := by decide +kernel
theorem dX10_does_177 : decode cX10_does 177 = .ok (.iconst 1, 1) := by decide +kernel
theorem dX10_does_178 : decode cX10_does 178 = .ok (.ireturn, 1) := by decide +kernel
theorem dX10_does_179 : decode cX10_does 179 = .ok (.aload_n 0, 1) := by decide +kernel
theorem dX10_does_180 : decode cX10_does 180 = .ok (.iload_n 2, 1) := by decide +kernel
theorem dX10_does_181 : decode cX10_does 181 = .ok (.bipush 6, 2) := by decide +kernel
theorem dX10_does_183 : decode cX10_does 183 = .ok (.invokevirtual 79, 3) := by decide +kernel
theorem dX10_does_186 : decode cX10_does 186 = .ok (.ifCond .eq 5, 3) := by decide +kernel
theorem dX10_does_189 : decode cX10_does 189 = .ok (.iconst 0, 1) := by decide +kernel
theorem dX10_does_190 : decode cX10_does 190 = .ok (.ireturn, 1) := by decide +kernel
theorem dX10_does_191 : decode cX10_does 191 = .ok (.aload_n 0, 1) := by decide +kernel
theorem dX10_does_192 : decode cX10_does 192 = .ok (.iload_n 2, 1) := by decide +kernel
theorem dX10_does_193 : decode cX10_does 193 = .ok (.iload_n 3, 1) := by decide +kernel
theorem dX10_does_194 : decode cX10_does 194 = .ok (.invokevirtual 296, 3) := by decide +kernel
theorem dX10_does_197 : decode cX10_does 197 = .ok (.pop, 1) := by decide +kernel
theorem dX10_does_198 : decode cX10_does 198 = .ok (.iconst 1, 1) := by decide +kernel
theorem dX10_does_199 : decode cX10_does 199 = .ok (.ireturn, 1) := by decide +kernel
theorem dX10_does_200 : decode cX10_does 200 = .ok (.aload_n 0, 1) := by decide +kernel
theorem dX10_does_201 : decode cX10_does 201 = .ok (.iload_n 2, 1) := by decide +kernel
theorem dX10_does_202 : decode cX10_does 202 = .ok (.invokevirtual 299, 3) := by decide +kernel
theorem dX10_does_205 : decode cX10_does 205 = .ok (.ifCond .ne 5, 3) := by decide +kernel
theorem dX10_does_208 : decode cX10_does 208 = .ok (.iconst 0, 1) := by decide +kernel
theorem dX10_does_209 : decode cX10_does 209 = .ok (.ireturn, 1) := by decide +kernel
theorem dX10_does_210 : decode cX10_does 210 = .ok (.aload_n 0, 1) := by decide +kernel
theorem dX10_does_211 : decode cX10_does 211 = .ok (.iload_n 2, 1) := by decide +kernel
theorem dX10_does_212 : decode cX10_does 212 = .ok (.invokevirtual 302, 3) := by decide +kernel
theorem dX10_does_215 : decode cX10_does 215 = .ok (.pop, 1) := by decide +kernel
theorem dX10_does_216 : decode cX10_does 216 = .ok (.iconst 1, 1) := by decide +kernel
theorem dX10_does_217 : decode cX10_does 217 = .ok (.ireturn, 1) := by decide +kernel
theorem dX10_does_218 : decode cX10_does 218 = .ok (.aload_n 0, 1) := by decide +kernel
theorem dX10_does_219 : decode cX10_does 219 = .ok (.iload_n 2, 1) := by decide +kernel
theorem dX10_does_220 : decode cX10_does 220 = .ok (.iload_n 3, 1) := by decide +kernel
theorem dX10_does_221 : decode cX10_does 221 = .ok (.invokevirtual 305, 3) := by decide +kernel
theorem dX10_does_224 : decode cX10_does 224 = .ok (.pop, 1) := by decide +kernel
theorem dX10_does_225 : decode cX10_does 225 = .ok (.iconst 1, 1) := by decide +kernel
theorem dX10_does_226 : decode cX10_does 226 = .ok (.ireturn, 1) := by decide +kernel
theorem dX10_four_0 : decode cX10_four 0 = .ok (.bipush 24, 2) := by decide +kernel
theorem dX10_four_2 : decode cX10_four 2 = .ok (.istore_n 2, 1) := by decide +kernel
theorem dX10_four_3 : decode cX10_four 3 = .ok (.iload_n 2, 1) := by decide +kernel
theorem dX10_four_4 : decode cX10_four 4 = .ok (.ifCond .lt 29, 3) := by decide +kernel
theorem dX10_four_7 : decode cX10_four 7 = .ok (.aload_n 0, 1) := by decide +kernel
theorem dX10_four_8 : decode cX10_four 8 = .ok (.getfield 20, 3) := by decide +kernel
theorem dX10_four_11 : decode cX10_four 11 = .ok (.aload_n 0, 1) := by decide +kernel
theorem dX10_four_12 : decode cX10_four 12 = .ok (.dup, 1) := by decide +kernel
theorem dX10_four_13 : decode cX10_four 13 = .ok (.getfield 179, 3) := by decide +kernel
theorem dX10_four_16 : decode cX10_four 16 = .ok (.dup_x1, 1) := by decide +kernel
theorem dX10_four_17 : decode cX10_four 17 = .ok (.iconst 1, 1) := by decide +kernel
theorem dX10_four_18 : decode cX10_four 18 = .ok (.iadd, 1) := by decide +kernel
theorem dX10_four_19 : decode cX10_four 19 = .ok (.putfield 179, 3) := by decide +kernel
theorem dX10_four_22 : decode cX10_four 22 = .ok (.iload_n 1, 1) := by decide +kernel
theorem dX10_four_23 : decode cX10_four 23 = .ok (.iload_n 2, 1) := by decide +kernel
theorem dX10_four_24 : decode cX10_four 24 = .ok (.iushr, 1) := by decide +kernel
theorem dX10_four_25 : decode cX10_four 25 = .ok (.i2b, 1) := by decide +kernel
theorem dX10_four_26 : decode cX10_four 26 = .ok (.bastore, 1) := by decide +kernel
theorem dX10_four_27 : decode cX10_four 27 = .ok (.iinc 2 (-8), 3) := by decide +kernel
theorem dX10_four_30 : decode cX10_four 30 = .ok (.goto (-27), 3) := by decide +kernel
theorem dX10_four_33 : decode cX10_four 33 = .ok (.return_, 1) := by decide +kernel
theorem dX10_append_0 : decode cX10_append 0 = .ok (.aload_n 0, 1) := by decide +kernel
theorem dX10_append_1 : decode cX10_append 1 = .ok (.iconst 0, 1) := by decide +kernel
theorem dX10_append_2 : decode cX10_append 2 = .ok (.putfield 62, 3) := by decide +kernel
theorem dX10_append_5 : decode cX10_append 5 = .ok (.aload_n 0, 1) := by decide +kernel
theorem dX10_append_6 : decode cX10_append 6 = .ok (.getfield 179, 3) := by decide +kernel
theorem dX10_append_9 : decode cX10_append 9 = .ok (.bipush 20, 2) := by decide +kernel
theorem dX10_append_11 : decode cX10_append 11 = .ok (.iadd, 1) := by decide +kernel
theorem dX10_append_12 : decode cX10_append 12 = .ok (.sipush 500, 3) := by decide +kernel
theorem dX10_append_15 : decode cX10_append 15 = .ok (.if_icmp .le 9, 3) := by decide +kernel
theorem dX10_append_18 : decode cX10_append 18 = .ok (.aload_n 0, 1) := by decide +kernel
theorem dX10_append_19 : decode cX10_append 19 = .ok (.iconst 1, 1) := by decide +kernel
theorem dX10_append_20 : decode cX10_append 20 = .ok (.invokevirtual 308, 3) := by decide +kernel
theorem dX10_append_23 : decode cX10_append 23 = .ok (.ireturn, 1) := by decide +kernel
theorem dX10_append_24 : decode cX10_append 24 = .ok (.aload_n 0, 1) := by decide +kernel
theorem dX10_append_25 : decode cX10_append 25 = .ok (.iload_n 1, 1) := by decide +kernel
theorem dX10_append_26 : decode cX10_append 26 = .ok (.invokevirtual 311, 3) := by decide +kernel
theorem dX10_append_29 : decode cX10_append 29 = .ok (.aload_n 0, 1) := by decide +kernel
theorem dX10_append_30 : decode cX10_append 30 = .ok (.iload_n 2, 1) := by decide +kernel
theorem dX10_append_31 : decode cX10_append 31 = .ok (.invokevirtual 311, 3) := by decide +kernel
theorem dX10_append_34 : decode cX10_append 34 = .ok (.aload_n 0, 1) := by decide +kernel
theorem dX10_append_35 : decode cX10_append 35 = .ok (.iload_n 3, 1) := by decide +kernel
theorem dX10_append_36 : decode cX10_append 36 = .ok (.invokevirtual 311, 3) := by decide +kernel
theorem dX10_append_39 : decode cX10_append 39 = .ok (.aload_n 0, 1) := by decide +kernel
theorem dX10_append_40 : decode cX10_append 40 = .ok (.iload 4, 2) := by decide +kernel
theorem dX10_append_42 : decode cX10_append 42 = .ok (.invokevirtual 311, 3) := by decide +kernel
theorem dX10_append_45 : decode cX10_append 45 = .ok (.aload_n 0, 1) := by decide +kernel
theorem dX10_append_46 : decode cX10_append 46 = .ok (.iload 5, 2) := by decide +kernel
theorem dX10_append_48 : decode cX10_append 48 = .ok (.invokevirtual 311, 3) := by decide +kernel
theorem dX10_append_51 : decode cX10_append 51 = .ok (.aload_n 0, 1) := by decide +kernel
theorem dX10_append_52 : decode cX10_append 52 = .ok (.getfield 179, 3) := by decide +kernel
theorem dX10_append_55 : decode cX10_append 55 = .ok (.ireturn, 1) := by decide +kernel
theorem dX10_truncate_0 : decode cX10_truncate 0 = .ok (.aload_n 0, 1) := by decide +kernel
theorem dX10_truncate_1 : decode cX10_truncate 1 = .ok (.iconst 0, 1) := by decide +kernel
theorem dX10_truncate_2 : decode cX10_truncate 2 = .ok (.putfield 62, 3) := by decide +kernel
theorem dX10_truncate_5 : decode cX10_truncate 5 = .ok (.iload_n 1, 1) := by decide +kernel
theorem dX10_truncate_6 : decode cX10_truncate 6 = .ok (.iconst 0, 1) := by decide +kernel
theorem dX10_truncate_7 : decode cX10_truncate 7 = .ok (.aload_n 0, 1) := by decide +kernel
theorem dX10_truncate_8 : decode cX10_truncate 8 = .ok (.getfield 179, 3) := by decide +kernel
theorem dX10_truncate_11 : decode cX10_truncate 11 = .ok (.invokestatic 75, 3) := by decide +kernel
theorem dX10_truncate_14 : decode cX10_truncate 14 = .ok (.ifCond .ne 9, 3) := by decide +kernel
theorem dX10_truncate_17 : decode cX10_truncate 17 = .ok (.aload_n 0, 1) := by decide +kernel
theorem dX10_truncate_18 : decode cX10_truncate 18 = .ok (.iconst 1, 1) := by decide +kernel
theorem dX10_truncate_19 : decode cX10_truncate 19 = .ok (.invokevirtual 308, 3) := by decide +kernel
theorem dX10_truncate_22 : decode cX10_truncate 22 = .ok (.ireturn, 1) := by decide +kernel
theorem dX10_truncate_23 : decode cX10_truncate 23 = .ok (.aload_n 0, 1) := by decide +kernel
theorem dX10_truncate_24 : decode cX10_truncate 24 = .ok (.iload_n 1, 1) := by decide +kernel
theorem dX10_truncate_25 : decode cX10_truncate 25 = .ok (.putfield 179, 3) := by decide +kernel
theorem dX10_truncate_28 : decode cX10_truncate 28 = .ok (.aload_n 0, 1) := by decide +kernel
theorem dX10_truncate_29 : decode cX10_truncate 29 = .ok (.getfield 179, 3) := by decide +kernel
theorem dX10_truncate_32 : decode cX10_truncate 32 = .ok (.ireturn, 1) := by decide +kernel
theorem dX10_errorCode_0 : decode cX10_errorCode 0 = .ok (.aload_n 0, 1) := by decide +kernel
theorem dX10_errorCode_1 : decode cX10_errorCode 1 = .ok (.iconst 0, 1) := by decide +kernel
theorem dX10_errorCode_2 : decode cX10_errorCode 2 = .ok (.putfield 62, 3) := by decide +kernel
theorem dX10_errorCode_5 : decode cX10_errorCode 5 = .ok (.aload_n 0, 1) := by decide +kernel
theorem dX10_errorCode_6 : decode cX10_errorCode 6 = .ok (.getfield 207, 3) := by decide +kernel
theorem dX10_errorCode_9 : decode cX10_errorCode 9 = .ok (.ireturn, 1) := by decide +kernel
theorem dX10_errorPosition_0 : decode cX10_errorPosition 0 = .ok (.aload_n 0, 1) := by decide +kernel
theorem dX10_errorPosition_1 : decode cX10_errorPosition 1 = .ok (.iconst 0, 1) := by decide +kernel
theorem dX10_errorPosition_2 : decode cX10_errorPosition 2 = .ok (.putfield 62, 3) := by decide +kernel
theorem dX10_errorPosition_5 : decode cX10_errorPosition 5 = .ok (.aload_n 0, 1) := by decide +kernel
theorem dX10_errorPosition_6 : decode cX10_errorPosition 6 = .ok (.getfield 24, 3) := by decide +kernel
theorem dX10_errorPosition_9 : decode cX10_errorPosition 9 = .ok (.ireturn, 1) := by decide +kernel
theorem dX10_right_0 : decode cX10_right 0 = .ok (.aload_n 0, 1) := by decide +kernel
theorem dX10_right_1 : decode cX10_right 1 = .ok (.iconst 0, 1) := by decide +kernel
theorem dX10_right_2 : decode cX10_right 2 = .ok (.putfield 207, 3) := by decide +kernel
theorem dX10_right_5 : decode cX10_right 5 = .ok (.aload_n 0, 1) := by decide +kernel
theorem dX10_right_6 : decode cX10_right 6 = .ok (.iconst (-1), 1) := by decide +kernel
theorem dX10_right_7 : decode cX10_right 7 = .ok (.putfield 24, 3) := by decide +kernel
theorem dX10_right_10 : decode cX10_right 10 = .ok (.return_, 1) := by decide +kernel
theorem dX10_loadSetup_0 : decode cX10_loadSetup 0 = .ok (.aload_n 0, 1) := by decide +kernel
theorem dX10_loadSetup_1 : decode cX10_loadSetup 1 = .ok (.iconst 0, 1) := by decide +kernel
theorem dX10_loadSetup_2 : decode cX10_loadSetup 2 = .ok (.putfield 62, 3) := by decide +kernel
theorem dX10_loadSetup_5 : decode cX10_loadSetup 5 = .ok (.aload_n 0, 1) := by decide +kernel
theorem dX10_loadSetup_6 : decode cX10_loadSetup 6 = .ok (.bipush 11, 2) := by decide +kernel
theorem dX10_loadSetup_8 : decode cX10_loadSetup 8 = .ok (.invokevirtual 71, 3) := by decide +kernel
theorem dX10_loadSetup_11 : decode cX10_loadSetup 11 = .ok (.aload_n 0, 1) := by decide +kernel
theorem dX10_loadSetup_12 : decode cX10_loadSetup 12 = .ok (.iconst 0, 1) := by decide +kernel
theorem dX10_loadSetup_13 : decode cX10_loadSetup 13 = .ok (.putfield 176, 3) := by decide +kernel
theorem dX10_loadSetup_16 : decode cX10_loadSetup 16 = .ok (.aload_n 0, 1) := by decide +kernel
theorem dX10_loadSetup_17 : decode cX10_loadSetup 17 = .ok (.invokevirtual 314, 3) := by decide +kernel
theorem dX10_loadSetup_20 : decode cX10_loadSetup 20 = .ok (.istore_n 1, 1) := by decide +kernel
theorem dX10_loadSetup_21 : decode cX10_loadSetup 21 = .ok (.aload_n 0, 1) := by decide +kernel
theorem dX10_loadSetup_22 : decode cX10_loadSetup 22 = .ok (.iconst 0, 1) := by decide +kernel
theorem dX10_loadSetup_23 : decode cX10_loadSetup 23 = .ok (.putfield 179, 3) := by decide +kernel
theorem dX10_loadSetup_26 : decode cX10_loadSetup 26 = .ok (.iload_n 1, 1) := by decide +kernel
theorem dX10_loadSetup_27 : decode cX10_loadSetup 27 = .ok (.ifCond .ne 15, 3) := by decide +kernel
theorem dX10_loadSetup_30 : decode cX10_loadSetup 30 = .ok (.aload_n 0, 1) := by decide +kernel
theorem dX10_loadSetup_31 : decode cX10_loadSetup 31 = .ok (.bipush 11, 2) := by decide +kernel
theorem dX10_loadSetup_33 : decode cX10_loadSetup 33 = .ok (.invokevirtual 317, 3) := by decide +kernel
theorem dX10_loadSetup_36 : decode cX10_loadSetup 36 = .ok (.aload_n 0, 1) := by decide +kernel
theorem dX10_loadSetup_37 : decode cX10_loadSetup 37 = .ok (.iconst 1, 1) := by decide +kernel
theorem dX10_loadSetup_38 : decode cX10_loadSetup 38 = .ok (.invokevirtual 308, 3) := by decide +kernel
theorem dX10_loadSetup_41 : decode cX10_loadSetup 41 = .ok (.ireturn, 1) := by decide +kernel
theorem dX10_loadSetup_42 : decode cX10_loadSetup 42 = .ok (.aload_n 0, 1) := by decide +kernel
theorem dX10_loadSetup_43 : decode cX10_loadSetup 43 = .ok (.bipush 10, 2) := by decide +kernel
theorem dX10_loadSetup_45 : decode cX10_loadSetup 45 = .ok (.invokevirtual 71, 3) := by decide +kernel
theorem dX10_loadSetup_48 : decode cX10_loadSetup 48 = .ok (.aload_n 0, 1) := by decide +kernel
theorem dX10_loadSetup_49 : decode cX10_loadSetup 49 = .ok (.bipush 11, 2) := by decide +kernel
theorem dX10_loadSetup_51 : decode cX10_loadSetup 51 = .ok (.invokevirtual 317, 3) := by decide +kernel
theorem dX10_loadSetup_54 : decode cX10_loadSetup 54 = .ok (.aload_n 0, 1) := by decide +kernel
theorem dX10_loadSetup_55 : decode cX10_loadSetup 55 = .ok (.invokevirtual 320, 3) := by decide +kernel
theorem dX10_loadSetup_58 : decode cX10_loadSetup 58 = .ok (.aload_n 0, 1) := by decide +kernel
theorem dX10_loadSetup_59 : decode cX10_loadSetup 59 = .ok (.bipush 10, 2) := by decide +kernel
theorem dX10_loadSetup_61 : decode cX10_loadSetup 61 = .ok (.invokevirtual 317, 3) := by decide +kernel
theorem dX10_loadSetup_64 : decode cX10_loadSetup 64 = .ok (.aload_n 0, 1) := by decide +kernel
theorem dX10_loadSetup_65 : decode cX10_loadSetup 65 = .ok (.invokevirtual 323, 3) := by decide +kernel
theorem dX10_loadSetup_68 : decode cX10_loadSetup 68 = .ok (.aload_n 0, 1) := by decide +kernel
theorem dX10_loadSetup_69 : decode cX10_loadSetup 69 = .ok (.getfield 7, 3) := by decide +kernel
theorem dX10_loadSetup_72 : decode cX10_loadSetup 72 = .ok (.bipush 6, 2) := by decide +kernel
theorem dX10_loadSetup_74 : decode cX10_loadSetup 74 = .ok (.iaload, 1) := by decide +kernel
theorem dX10_loadSetup_75 : decode cX10_loadSetup 75 = .ok (.ireturn, 1) := by decide +kernel
theorem dX10_runScript_0 : decode cX10_runScript 0 = .ok (.aload_n 0, 1) := by decide +kernel
theorem dX10_runScript_1 : decode cX10_runScript 1 = .ok (.iconst 0, 1) := by decide +kernel
theorem dX10_runScript_2 : decode cX10_runScript 2 = .ok (.putfield 62, 3) := by decide +kernel
theorem dX10_runScript_5 : decode cX10_runScript 5 = .ok (.aload_n 0, 1) := by decide +kernel
theorem dX10_runScript_6 : decode cX10_runScript 6 = .ok (.iconst 0, 1) := by decide +kernel
theorem dX10_runScript_7 : decode cX10_runScript 7 = .ok (.putfield 176, 3) := by decide +kernel
theorem dX10_runScript_10 : decode cX10_runScript 10 = .ok (.aload_n 0, 1) := by decide +kernel
theorem dX10_runScript_11 : decode cX10_runScript 11 = .ok (.invokevirtual 326, 3) := by decide +kernel
theorem dX10_runScript_14 : decode cX10_runScript 14 = .ok (.istore_n 1, 1) := by decide +kernel
theorem dX10_runScript_15 : decode cX10_runScript 15 = .ok (.aload_n 0, 1) := by decide +kernel
theorem dX10_runScript_16 : decode cX10_runScript 16 = .ok (.iconst 0, 1) := by decide +kernel
theorem dX10_runScript_17 : decode cX10_runScript 17 = .ok (.putfield 179, 3) := by decide +kernel
theorem dX10_runScript_20 : decode cX10_runScript 20 = .ok (.iload_n 1, 1) := by decide +kernel
theorem dX10_runScript_21 : decode cX10_runScript 21 = .ok (.ifCond .ne 9, 3) := by decide +kernel
theorem dX10_runScript_24 : decode cX10_runScript 24 = .ok (.aload_n 0, 1) := by decide +kernel
theorem dX10_runScript_25 : decode cX10_runScript 25 = .ok (.iconst 1, 1) := by decide +kernel
theorem dX10_runScript_26 : decode cX10_runScript 26 = .ok (.invokevirtual 308, 3) := by decide +kernel
theorem dX10_runScript_29 : decode cX10_runScript 29 = .ok (.ireturn, 1) := by decide +kernel
theorem dX10_runScript_30 : decode cX10_runScript 30 = .ok (.aload_n 0, 1) := by decide +kernel
theorem dX10_runScript_31 : decode cX10_runScript 31 = .ok (.invokevirtual 323, 3) := by decide +kernel
theorem dX10_runScript_34 : decode cX10_runScript 34 = .ok (.aload_n 0, 1) := by decide +kernel
theorem dX10_runScript_35 : decode cX10_runScript 35 = .ok (.invokevirtual 320, 3) := by decide +kernel
theorem dX10_runScript_38 : decode cX10_runScript 38 = .ok (.iconst 0, 1) := by decide +kernel
theorem dX10_runScript_39 : decode cX10_runScript 39 = .ok (.istore_n 2, 1) := by decide +kernel
theorem dX10_runScript_40 : decode cX10_runScript 40 = .ok (.iload_n 2, 1) := by decide +kernel
theorem dX10_runScript_41 : decode cX10_runScript 41 = .ok (.aload_n 0, 1) := by decide +kernel
theorem dX10_runScript_42 : decode cX10_runScript 42 = .ok (.getfield 266, 3) := by decide +kernel
theorem dX10_runScript_45 : decode cX10_runScript 45 = .ok (.if_icmp .ge 17, 3) := by decide +kernel
theorem dX10_runScript_48 : decode cX10_runScript 48 = .ok (.aload_n 0, 1) := by decide +kernel
theorem dX10_runScript_49 : decode cX10_runScript 49 = .ok (.iload_n 2, 1) := by decide +kernel
theorem dX10_runScript_50 : decode cX10_runScript 50 = .ok (.invokevirtual 329, 3) := by decide +kernel
theorem dX10_runScript_53 : decode cX10_runScript 53 = .ok (.ifCond .eq 9, 3) := by decide +kernel
theorem dX10_runScript_56 : decode cX10_runScript 56 = .ok (.iinc 2 1, 3) := by decide +kernel
theorem dX10_runScript_59 : decode cX10_runScript 59 = .ok (.goto (-19), 3) := by decide +kernel
theorem dX10_runScript_62 : decode cX10_runScript 62 = .ok (.iload_n 2, 1) := by decide +kernel
theorem dX10_runScript_63 : decode cX10_runScript 63 = .ok (.ireturn, 1) := by decide +kernel
theorem dX10_addKite_0 : decode cX10_addKite 0 = .ok (.aload_n 0, 1) := by decide +kernel
theorem dX10_addKite_1 : decode cX10_addKite 1 = .ok (.iconst 0, 1) := by decide +kernel
theorem dX10_addKite_2 : decode cX10_addKite 2 = .ok (.putfield 62, 3) := by decide +kernel
theorem dX10_addKite_5 : decode cX10_addKite 5 = .ok (.aload_n 0, 1) := by decide +kernel
theorem dX10_addKite_6 : decode cX10_addKite 6 = .ok (.iload 4, 2) := by decide +kernel
theorem dX10_addKite_8 : decode cX10_addKite 8 = .ok (.invokevirtual 332, 3) := by decide +kernel
theorem dX10_addKite_11 : decode cX10_addKite 11 = .ok (.ifCond .ne 9, 3) := by decide +kernel
theorem dX10_addKite_14 : decode cX10_addKite 14 = .ok (.aload_n 0, 1) := by decide +kernel
theorem dX10_addKite_15 : decode cX10_addKite 15 = .ok (.iconst 1, 1) := by decide +kernel
theorem dX10_addKite_16 : decode cX10_addKite 16 = .ok (.invokevirtual 308, 3) := by decide +kernel
theorem dX10_addKite_19 : decode cX10_addKite 19 = .ok (.ireturn, 1) := by decide +kernel
theorem dX10_addKite_20 : decode cX10_addKite 20 = .ok (.iload_n 1, 1) := by decide +kernel
theorem dX10_addKite_21 : decode cX10_addKite 21 = .ok (.iconst 0, 1) := by decide +kernel
theorem dX10_addKite_22 : decode cX10_addKite 22 = .ok (.aload_n 0, 1) := by decide +kernel
theorem dX10_addKite_23 : decode cX10_addKite 23 = .ok (.getfield 7, 3) := by decide +kernel
theorem dX10_addKite_26 : decode cX10_addKite 26 = .ok (.iconst 0, 1) := by decide +kernel
theorem dX10_addKite_27 : decode cX10_addKite 27 = .ok (.iaload, 1) := by decide +kernel
theorem dX10_addKite_28 : decode cX10_addKite 28 = .ok (.iconst 1, 1) := by decide +kernel
theorem dX10_addKite_29 : decode cX10_addKite 29 = .ok (.isub, 1) := by decide +kernel
theorem dX10_addKite_30 : decode cX10_addKite 30 = .ok (.invokestatic 75, 3) := by decide +kernel
theorem dX10_addKite_33 : decode cX10_addKite 33 = .ok (.ifCond .eq 52, 3) := by decide +kernel
theorem dX10_addKite_36 : decode cX10_addKite 36 = .ok (.iload_n 2, 1) := by decide +kernel
theorem dX10_addKite_37 : decode cX10_addKite 37 = .ok (.iconst 0, 1) := by decide +kernel
theorem dX10_addKite_38 : decode cX10_addKite 38 = .ok (.aload_n 0, 1) := by decide +kernel
theorem dX10_addKite_39 : decode cX10_addKite 39 = .ok (.getfield 7, 3) := by decide +kernel
theorem dX10_addKite_42 : decode cX10_addKite 42 = .ok (.iconst 1, 1) := by decide +kernel
theorem dX10_addKite_43 : decode cX10_addKite 43 = .ok (.iaload, 1) := by decide +kernel
theorem dX10_addKite_44 : decode cX10_addKite 44 = .ok (.iconst 1, 1) := by decide +kernel
theorem dX10_addKite_45 : decode cX10_addKite 45 = .ok (.isub, 1) := by decide +kernel
theorem dX10_addKite_46 : decode cX10_addKite 46 = .ok (.invokestatic 75, 3) := by decide +kernel
theorem dX10_addKite_49 : decode cX10_addKite 49 = .ok (.ifCond .eq 36, 3) := by decide +kernel
theorem dX10_addKite_52 : decode cX10_addKite 52 = .ok (.iload_n 3, 1) := by decide +kernel
theorem dX10_addKite_53 : decode cX10_addKite 53 = .ok (.iconst 1, 1) := by decide +kernel
theorem dX10_addKite_54 : decode cX10_addKite 54 = .ok (.bipush 60, 2) := by decide +kernel
theorem dX10_addKite_56 : decode cX10_addKite 56 = .ok (.invokestatic 75, 3) := by decide +kernel
theorem dX10_addKite_59 : decode cX10_addKite 59 = .ok (.ifCond .eq 26, 3) := by decide +kernel
theorem dX10_addKite_62 : decode cX10_addKite 62 = .ok (.iload 5, 2) := by decide +kernel
theorem dX10_addKite_64 : decode cX10_addKite 64 = .ok (.iconst 0, 1) := by decide +kernel
theorem dX10_addKite_65 : decode cX10_addKite 65 = .ok (.bipush 9, 2) := by decide +kernel
theorem dX10_addKite_67 : decode cX10_addKite 67 = .ok (.invokestatic 75, 3) := by decide +kernel
theorem dX10_addKite_70 : decode cX10_addKite 70 = .ok (.ifCond .eq 15, 3) := by decide +kernel
theorem dX10_addKite_73 : decode cX10_addKite 73 = .ok (.iload 6, 2) := by decide +kernel
theorem dX10_addKite_75 : decode cX10_addKite 75 = .ok (.iconst 0, 1) := by decide +kernel
theorem dX10_addKite_76 : decode cX10_addKite 76 = .ok (.sipush 999, 3) := by decide +kernel
theorem dX10_addKite_79 : decode cX10_addKite 79 = .ok (.invokestatic 75, 3) := by decide +kernel
theorem dX10_addKite_82 : decode cX10_addKite 82 = .ok (.ifCond .ne 9, 3) := by decide +kernel
theorem dX10_addKite_85 : decode cX10_addKite 85 = .ok (.aload_n 0, 1) := by decide +kernel
theorem dX10_addKite_86 : decode cX10_addKite 86 = .ok (.iconst 2, 1) := by decide +kernel
theorem dX10_addKite_87 : decode cX10_addKite 87 = .ok (.invokevirtual 308, 3) := by decide +kernel
theorem dX10_addKite_90 : decode cX10_addKite 90 = .ok (.ireturn, 1) := by decide +kernel
theorem dX10_addKite_91 : decode cX10_addKite 91 = .ok (.aload_n 0, 1) := by decide +kernel
theorem dX10_addKite_92 : decode cX10_addKite 92 = .ok (.getfield 7, 3) := by decide +kernel
theorem dX10_addKite_95 : decode cX10_addKite 95 = .ok (.bipush 6, 2) := by decide +kernel
theorem dX10_addKite_97 : decode cX10_addKite 97 = .ok (.iaload, 1) := by decide +kernel
theorem dX10_addKite_98 : decode cX10_addKite 98 = .ok (.bipush 16, 2) := by decide +kernel
theorem dX10_addKite_100 : decode cX10_addKite 100 = .ok (.if_icmp .ne 9, 3) := by decide +kernel
theorem dX10_addKite_103 : decode cX10_addKite 103 = .ok (.aload_n 0, 1) := by decide +kernel
theorem dX10_addKite_104 : decode cX10_addKite 104 = .ok (.iconst 3, 1) := by decide +kernel
theorem dX10_addKite_105 : decode cX10_addKite 105 = .ok (.invokevirtual 308, 3) := by decide +kernel
theorem dX10_addKite_108 : decode cX10_addKite 108 = .ok (.ireturn, 1) := by decide +kernel
theorem dX10_addKite_109 : decode cX10_addKite 109 = .ok (.aload_n 0, 1) := by decide +kernel
theorem dX10_addKite_110 : decode cX10_addKite 110 = .ok (.invokevirtual 320, 3) := by decide +kernel
theorem dX10_addKite_113 : decode cX10_addKite 113 = .ok (.aload_n 0, 1) := by decide +kernel
theorem dX10_addKite_114 : decode cX10_addKite 114 = .ok (.iload_n 1, 1) := by decide +kernel
theorem dX10_addKite_115 : decode cX10_addKite 115 = .ok (.iload_n 2, 1) := by decide +kernel
theorem dX10_addKite_116 : decode cX10_addKite 116 = .ok (.iload_n 3, 1) := by decide +kernel
theorem dX10_addKite_117 : decode cX10_addKite 117 = .ok (.iload 4, 2) := by decide +kernel
theorem dX10_addKite_119 : decode cX10_addKite 119 = .ok (.iload 5, 2) := by decide +kernel
theorem dX10_addKite_121 : decode cX10_addKite 121 = .ok (.iload 6, 2) := by decide +kernel
theorem dX10_addKite_123 : decode cX10_addKite 123 = .ok (.invokevirtual 58, 3) := by decide +kernel
theorem dX10_addKite_126 : decode cX10_addKite 126 = .ok (.ireturn, 1) := by decide +kernel
theorem dX10_launch_0 : decode cX10_launch 0 = .ok (.aload_n 0, 1) := by decide +kernel
theorem dX10_launch_1 : decode cX10_launch 1 = .ok (.iconst 0, 1) := by decide +kernel
theorem dX10_launch_2 : decode cX10_launch 2 = .ok (.putfield 62, 3) := by decide +kernel
theorem dX10_launch_5 : decode cX10_launch 5 = .ok (.aload_n 0, 1) := by decide +kernel
theorem dX10_launch_6 : decode cX10_launch 6 = .ok (.iload_n 1, 1) := by decide +kernel
theorem dX10_launch_7 : decode cX10_launch 7 = .ok (.invokevirtual 278, 3) := by decide +kernel
theorem dX10_launch_10 : decode cX10_launch 10 = .ok (.ifCond .ne 9, 3) := by decide +kernel
theorem dX10_launch_13 : decode cX10_launch 13 = .ok (.aload_n 0, 1) := by decide +kernel
theorem dX10_launch_14 : decode cX10_launch 14 = .ok (.iconst 1, 1) := by decide +kernel
theorem dX10_launch_15 : decode cX10_launch 15 = .ok (.invokevirtual 308, 3) := by decide +kernel
theorem dX10_launch_18 : decode cX10_launch 18 = .ok (.ireturn, 1) := by decide +kernel
theorem dX10_launch_19 : decode cX10_launch 19 = .ok (.aload_n 0, 1) := by decide +kernel
theorem dX10_launch_20 : decode cX10_launch 20 = .ok (.iload_n 1, 1) := by decide +kernel
theorem dX10_launch_21 : decode cX10_launch 21 = .ok (.invokevirtual 281, 3) := by decide +kernel
theorem dX10_launch_24 : decode cX10_launch 24 = .ok (.ifCond .ne 9, 3) := by decide +kernel
theorem dX10_launch_27 : decode cX10_launch 27 = .ok (.aload_n 0, 1) := by decide +kernel
theorem dX10_launch_28 : decode cX10_launch 28 = .ok (.iconst 2, 1) := by decide +kernel
theorem dX10_launch_29 : decode cX10_launch 29 = .ok (.invokevirtual 308, 3) := by decide +kernel
theorem dX10_launch_32 : decode cX10_launch 32 = .ok (.ireturn, 1) := by decide +kernel
theorem dX10_launch_33 : decode cX10_launch 33 = .ok (.aload_n 0, 1) := by decide +kernel
theorem dX10_launch_34 : decode cX10_launch 34 = .ok (.invokevirtual 320, 3) := by decide +kernel
theorem dX10_launch_37 : decode cX10_launch 37 = .ok (.aload_n 0, 1) := by decide +kernel
theorem dX10_launch_38 : decode cX10_launch 38 = .ok (.iload_n 1, 1) := by decide +kernel
theorem dX10_launch_39 : decode cX10_launch 39 = .ok (.invokevirtual 284, 3) := by decide +kernel
theorem dX10_launch_42 : decode cX10_launch 42 = .ok (.ireturn, 1) := by decide +kernel
theorem dX10_land_0 : decode cX10_land 0 = .ok (.aload_n 0, 1) := by decide +kernel
theorem dX10_land_1 : decode cX10_land 1 = .ok (.iconst 0, 1) := by decide +kernel
theorem dX10_land_2 : decode cX10_land 2 = .ok (.putfield 62, 3) := by decide +kernel
theorem dX10_land_5 : decode cX10_land 5 = .ok (.aload_n 0, 1) := by decide +kernel
theorem dX10_land_6 : decode cX10_land 6 = .ok (.iload_n 1, 1) := by decide +kernel
theorem dX10_land_7 : decode cX10_land 7 = .ok (.invokevirtual 278, 3) := by decide +kernel
theorem dX10_land_10 : decode cX10_land 10 = .ok (.ifCond .ne 9, 3) := by decide +kernel
theorem dX10_land_13 : decode cX10_land 13 = .ok (.aload_n 0, 1) := by decide +kernel
theorem dX10_land_14 : decode cX10_land 14 = .ok (.iconst 1, 1) := by decide +kernel
theorem dX10_land_15 : decode cX10_land 15 = .ok (.invokevirtual 308, 3) := by decide +kernel
theorem dX10_land_18 : decode cX10_land 18 = .ok (.ireturn, 1) := by decide +kernel
theorem dX10_land_19 : decode cX10_land 19 = .ok (.aload_n 0, 1) := by decide +kernel
theorem dX10_land_20 : decode cX10_land 20 = .ok (.iload_n 1, 1) := by decide +kernel
theorem dX10_land_21 : decode cX10_land 21 = .ok (.bipush 6, 2) := by decide +kernel
theorem dX10_land_23 : decode cX10_land 23 = .ok (.invokevirtual 79, 3) := by decide +kernel
theorem dX10_land_26 : decode cX10_land 26 = .ok (.iconst 1, 1) := by decide +kernel
theorem dX10_land_27 : decode cX10_land 27 = .ok (.if_icmp .eq 9, 3) := by decide +kernel
theorem dX10_land_30 : decode cX10_land 30 = .ok (.aload_n 0, 1) := by decide +kernel
theorem dX10_land_31 : decode cX10_land 31 = .ok (.iconst 2, 1) := by decide +kernel
theorem dX10_land_32 : decode cX10_land 32 = .ok (.invokevirtual 308, 3) := by decide +kernel
theorem dX10_land_35 : decode cX10_land 35 = .ok (.ireturn, 1) := by decide +kernel
theorem dX10_land_36 : decode cX10_land 36 = .ok (.aload_n 0, 1) := by decide +kernel
theorem dX10_land_37 : decode cX10_land 37 = .ok (.invokevirtual 320, 3) := by decide +kernel
theorem dX10_land_40 : decode cX10_land 40 = .ok (.aload_n 0, 1) := by decide +kernel
theorem dX10_land_41 : decode cX10_land 41 = .ok (.iload_n 1, 1) := by decide +kernel
theorem dX10_land_42 : decode cX10_land 42 = .ok (.invokevirtual 287, 3) := by decide +kernel
theorem dX10_land_45 : decode cX10_land 45 = .ok (.ireturn, 1) := by decide +kernel
theorem dX10_passHours_0 : decode cX10_passHours 0 = .ok (.aload_n 0, 1) := by decide +kernel
theorem dX10_passHours_1 : decode cX10_passHours 1 = .ok (.iconst 0, 1) := by decide +kernel
theorem dX10_passHours_2 : decode cX10_passHours 2 = .ok (.putfield 62, 3) := by decide +kernel
theorem dX10_passHours_5 : decode cX10_passHours 5 = .ok (.iload_n 1, 1) := by decide +kernel
theorem dX10_passHours_6 : decode cX10_passHours 6 = .ok (.iconst 1, 1) := by decide +kernel
theorem dX10_passHours_7 : decode cX10_passHours 7 = .ok (.bipush 48, 2) := by decide +kernel
theorem dX10_passHours_9 : decode cX10_passHours 9 = .ok (.invokestatic 75, 3) := by decide +kernel
theorem dX10_passHours_12 : decode cX10_passHours 12 = .ok (.ifCond .ne 9, 3) := by decide +kernel
theorem dX10_passHours_15 : decode cX10_passHours 15 = .ok (.aload_n 0, 1) := by decide +kernel
theorem dX10_passHours_16 : decode cX10_passHours 16 = .ok (.iconst 1, 1) := by decide +kernel
theorem dX10_passHours_17 : decode cX10_passHours 17 = .ok (.invokevirtual 308, 3) := by decide +kernel
theorem dX10_passHours_20 : decode cX10_passHours 20 = .ok (.ireturn, 1) := by decide +kernel
theorem dX10_passHours_21 : decode cX10_passHours 21 = .ok (.aload_n 0, 1) := by decide +kernel
theorem dX10_passHours_22 : decode cX10_passHours 22 = .ok (.invokevirtual 320, 3) := by decide +kernel
theorem dX10_passHours_25 : decode cX10_passHours 25 = .ok (.aload_n 0, 1) := by decide +kernel
theorem dX10_passHours_26 : decode cX10_passHours 26 = .ok (.iload_n 1, 1) := by decide +kernel
theorem dX10_passHours_27 : decode cX10_passHours 27 = .ok (.invokevirtual 275, 3) := by decide +kernel
theorem dX10_passHours_30 : decode cX10_passHours 30 = .ok (.ireturn, 1) := by decide +kernel
theorem dX10_permit_0 : decode cX10_permit 0 = .ok (.aload_n 0, 1) := by decide +kernel
theorem dX10_permit_1 : decode cX10_permit 1 = .ok (.iconst 0, 1) := by decide +kernel
theorem dX10_permit_2 : decode cX10_permit 2 = .ok (.putfield 62, 3) := by decide +kernel
theorem dX10_permit_5 : decode cX10_permit 5 = .ok (.aload_n 0, 1) := by decide +kernel
theorem dX10_permit_6 : decode cX10_permit 6 = .ok (.iload_n 1, 1) := by decide +kernel
theorem dX10_permit_7 : decode cX10_permit 7 = .ok (.invokevirtual 278, 3) := by decide +kernel
theorem dX10_permit_10 : decode cX10_permit 10 = .ok (.ifCond .ne 9, 3) := by decide +kernel
theorem dX10_permit_13 : decode cX10_permit 13 = .ok (.aload_n 0, 1) := by decide +kernel
theorem dX10_permit_14 : decode cX10_permit 14 = .ok (.iconst 1, 1) := by decide +kernel
theorem dX10_permit_15 : decode cX10_permit 15 = .ok (.invokevirtual 308, 3) := by decide +kernel
theorem dX10_permit_18 : decode cX10_permit 18 = .ok (.ireturn, 1) := by decide +kernel
theorem dX10_permit_19 : decode cX10_permit 19 = .ok (.iload_n 2, 1) := by decide +kernel
theorem dX10_permit_20 : decode cX10_permit 20 = .ok (.invokestatic 335, 3) := by decide +kernel
theorem dX10_permit_23 : decode cX10_permit 23 = .ok (.ifCond .eq 13, 3) := by decide +kernel
theorem dX10_permit_26 : decode cX10_permit 26 = .ok (.iload_n 3, 1) := by decide +kernel
theorem dX10_permit_27 : decode cX10_permit 27 = .ok (.iconst 1, 1) := by decide +kernel
theorem dX10_permit_28 : decode cX10_permit 28 = .ok (.bipush 24, 2) := by decide +kernel
theorem dX10_permit_30 : decode cX10_permit 30 = .ok (.invokestatic 75, 3) := by decide +kernel
theorem dX10_permit_33 : decode cX10_permit 33 = .ok (.ifCond .ne 9, 3) := by decide +kernel
theorem dX10_permit_36 : decode cX10_permit 36 = .ok (.aload_n 0, 1) := by decide +kernel
theorem dX10_permit_37 : decode cX10_permit 37 = .ok (.iconst 2, 1) := by decide +kernel
theorem dX10_permit_38 : decode cX10_permit 38 = .ok (.invokevirtual 308, 3) := by decide +kernel
theorem dX10_permit_41 : decode cX10_permit 41 = .ok (.ireturn, 1) := by decide +kernel
theorem dX10_permit_42 : decode cX10_permit 42 = .ok (.aload_n 0, 1) := by decide +kernel
theorem dX10_permit_43 : decode cX10_permit 43 = .ok (.iload_n 1, 1) := by decide +kernel
theorem dX10_permit_44 : decode cX10_permit 44 = .ok (.iload_n 2, 1) := by decide +kernel
theorem dX10_permit_45 : decode cX10_permit 45 = .ok (.iload_n 3, 1) := by decide +kernel
theorem dX10_permit_46 : decode cX10_permit 46 = .ok (.invokevirtual 290, 3) := by decide +kernel
theorem dX10_permit_49 : decode cX10_permit 49 = .ok (.ifCond .le 9, 3) := by decide +kernel
theorem dX10_permit_52 : decode cX10_permit 52 = .ok (.aload_n 0, 1) := by decide +kernel
theorem dX10_permit_53 : decode cX10_permit 53 = .ok (.iconst 3, 1) := by decide +kernel
theorem dX10_permit_54 : decode cX10_permit 54 = .ok (.invokevirtual 308, 3) := by decide +kernel
theorem dX10_permit_57 : decode cX10_permit 57 = .ok (.ireturn, 1) := by decide +kernel
theorem dX10_permit_58 : decode cX10_permit 58 = .ok (.aload_n 0, 1) := by decide +kernel
theorem dX10_permit_59 : decode cX10_permit 59 = .ok (.invokevirtual 320, 3) := by decide +kernel
theorem dX10_permit_62 : decode cX10_permit 62 = .ok (.aload_n 0, 1) := by decide +kernel
theorem dX10_permit_63 : decode cX10_permit 63 = .ok (.iload_n 1, 1) := by decide +kernel
theorem dX10_permit_64 : decode cX10_permit 64 = .ok (.iload_n 2, 1) := by decide +kernel
theorem dX10_permit_65 : decode cX10_permit 65 = .ok (.iload_n 3, 1) := by decide +kernel
theorem dX10_permit_66 : decode cX10_permit 66 = .ok (.invokevirtual 293, 3) := by decide +kernel
theorem dX10_permit_69 : decode cX10_permit 69 = .ok (.ireturn, 1) := by decide +kernel
theorem dX10_cancelPermits_0 : decode cX10_cancelPermits 0 = .ok (.aload_n 0, 1) := by decide +kernel
theorem dX10_cancelPermits_1 : decode cX10_cancelPermits 1 = .ok (.iconst 0, 1) := by decide +kernel
theorem dX10_cancelPermits_2 : decode cX10_cancelPermits 2 = .ok (.putfield 62, 3) := by decide +kernel
theorem dX10_cancelPermits_5 : decode cX10_cancelPermits 5 = .ok (.aload_n 0, 1) := by decide +kernel
theorem dX10_cancelPermits_6 : decode cX10_cancelPermits 6 = .ok (.iload_n 1, 1) := by decide +kernel
theorem dX10_cancelPermits_7 : decode cX10_cancelPermits 7 = .ok (.invokevirtual 278, 3) := by decide +kernel
theorem dX10_cancelPermits_10 : decode cX10_cancelPermits 10 = .ok (.ifCond .ne 9, 3) := by decide +kernel
theorem dX10_cancelPermits_13 : decode cX10_cancelPermits 13 = .ok (.aload_n 0, 1) := by decide +kernel
theorem dX10_cancelPermits_14 : decode cX10_cancelPermits 14 = .ok (.iconst 1, 1) := by decide +kernel
theorem dX10_cancelPermits_15 : decode cX10_cancelPermits 15 = .ok (.invokevirtual 308, 3) := by decide +kernel
theorem dX10_cancelPermits_18 : decode cX10_cancelPermits 18 = .ok (.ireturn, 1) := by decide +kernel
theorem dX10_cancelPermits_19 : decode cX10_cancelPermits 19 = .ok (.aload_n 0, 1) := by decide +kernel
theorem dX10_cancelPermits_20 : decode cX10_cancelPermits 20 = .ok (.invokevirtual 320, 3) := by decide +kernel
theorem dX10_cancelPermits_23 : decode cX10_cancelPermits 23 = .ok (.aload_n 0, 1) := by decide +kernel
theorem dX10_cancelPermits_24 : decode cX10_cancelPermits 24 = .ok (.iload_n 1, 1) := by decide +kernel
theorem dX10_cancelPermits_25 : decode cX10_cancelPermits 25 = .ok (.invokevirtual 172, 3) := by decide +kernel
theorem dX10_cancelPermits_28 : decode cX10_cancelPermits 28 = .ok (.ireturn, 1) := by decide +kernel
theorem dX10_tieKnots_0 : decode cX10_tieKnots 0 = .ok (.aload_n 0, 1) := by decide +kernel
theorem dX10_tieKnots_1 : decode cX10_tieKnots 1 = .ok (.iconst 0, 1) := by decide +kernel
theorem dX10_tieKnots_2 : decode cX10_tieKnots 2 = .ok (.putfield 62, 3) := by decide +kernel
theorem dX10_tieKnots_5 : decode cX10_tieKnots 5 = .ok (.aload_n 0, 1) := by decide +kernel
theorem dX10_tieKnots_6 : decode cX10_tieKnots 6 = .ok (.iload_n 1, 1) := by decide +kernel
theorem dX10_tieKnots_7 : decode cX10_tieKnots 7 = .ok (.invokevirtual 278, 3) := by decide +kernel
theorem dX10_tieKnots_10 : decode cX10_tieKnots 10 = .ok (.ifCond .ne 9, 3) := by decide +kernel
theorem dX10_tieKnots_13 : decode cX10_tieKnots 13 = .ok (.aload_n 0, 1) := by decide +kernel
theorem dX10_tieKnots_14 : decode cX10_tieKnots 14 = .ok (.iconst 1, 1) := by decide +kernel
theorem dX10_tieKnots_15 : decode cX10_tieKnots 15 = .ok (.invokevirtual 308, 3) := by decide +kernel
theorem dX10_tieKnots_18 : decode cX10_tieKnots 18 = .ok (.ireturn, 1) := by decide +kernel
theorem dX10_tieKnots_19 : decode cX10_tieKnots 19 = .ok (.iload_n 2, 1) := by decide +kernel
theorem dX10_tieKnots_20 : decode cX10_tieKnots 20 = .ok (.iconst 0, 1) := by decide +kernel
theorem dX10_tieKnots_21 : decode cX10_tieKnots 21 = .ok (.bipush 9, 2) := by decide +kernel
theorem dX10_tieKnots_23 : decode cX10_tieKnots 23 = .ok (.invokestatic 75, 3) := by decide +kernel
theorem dX10_tieKnots_26 : decode cX10_tieKnots 26 = .ok (.ifCond .ne 9, 3) := by decide +kernel
theorem dX10_tieKnots_29 : decode cX10_tieKnots 29 = .ok (.aload_n 0, 1) := by decide +kernel
theorem dX10_tieKnots_30 : decode cX10_tieKnots 30 = .ok (.iconst 2, 1) := by decide +kernel
theorem dX10_tieKnots_31 : decode cX10_tieKnots 31 = .ok (.invokevirtual 308, 3) := by decide +kernel
theorem dX10_tieKnots_34 : decode cX10_tieKnots 34 = .ok (.ireturn, 1) := by decide +kernel
theorem dX10_tieKnots_35 : decode cX10_tieKnots 35 = .ok (.aload_n 0, 1) := by decide +kernel
theorem dX10_tieKnots_36 : decode cX10_tieKnots 36 = .ok (.iload_n 1, 1) := by decide +kernel
theorem dX10_tieKnots_37 : decode cX10_tieKnots 37 = .ok (.bipush 6, 2) := by decide +kernel
theorem dX10_tieKnots_39 : decode cX10_tieKnots 39 = .ok (.invokevirtual 79, 3) := by decide +kernel
theorem dX10_tieKnots_42 : decode cX10_tieKnots 42 = .ok (.ifCond .eq 9, 3) := by decide +kernel
theorem dX10_tieKnots_45 : decode cX10_tieKnots 45 = .ok (.aload_n 0, 1) := by decide +kernel
theorem dX10_tieKnots_46 : decode cX10_tieKnots 46 = .ok (.iconst 3, 1) := by decide +kernel
theorem dX10_tieKnots_47 : decode cX10_tieKnots 47 = .ok (.invokevirtual 308, 3) := by decide +kernel
theorem dX10_tieKnots_50 : decode cX10_tieKnots 50 = .ok (.ireturn, 1) := by decide +kernel
theorem dX10_tieKnots_51 : decode cX10_tieKnots 51 = .ok (.aload_n 0, 1) := by decide +kernel
theorem dX10_tieKnots_52 : decode cX10_tieKnots 52 = .ok (.invokevirtual 320, 3) := by decide +kernel
theorem dX10_tieKnots_55 : decode cX10_tieKnots 55 = .ok (.aload_n 0, 1) := by decide +kernel
theorem dX10_tieKnots_56 : decode cX10_tieKnots 56 = .ok (.iload_n 1, 1) := by decide +kernel
theorem dX10_tieKnots_57 : decode cX10_tieKnots 57 = .ok (.iload_n 2, 1) := by decide +kernel
theorem dX10_tieKnots_58 : decode cX10_tieKnots 58 = .ok (.invokevirtual 296, 3) := by decide +kernel
theorem dX10_tieKnots_61 : decode cX10_tieKnots 61 = .ok (.ireturn, 1) := by decide +kernel
theorem dX10_repair_0 : decode cX10_repair 0 = .ok (.aload_n 0, 1) := by decide +kernel
theorem dX10_repair_1 : decode cX10_repair 1 = .ok (.iconst 0, 1) := by decide +kernel
theorem dX10_repair_2 : decode cX10_repair 2 = .ok (.putfield 62, 3) := by decide +kernel
theorem dX10_repair_5 : decode cX10_repair 5 = .ok (.aload_n 0, 1) := by decide +kernel
theorem dX10_repair_6 : decode cX10_repair 6 = .ok (.iload_n 1, 1) := by decide +kernel
theorem dX10_repair_7 : decode cX10_repair 7 = .ok (.invokevirtual 278, 3) := by decide +kernel
theorem dX10_repair_10 : decode cX10_repair 10 = .ok (.ifCond .ne 9, 3) := by decide +kernel
theorem dX10_repair_13 : decode cX10_repair 13 = .ok (.aload_n 0, 1) := by decide +kernel
theorem dX10_repair_14 : decode cX10_repair 14 = .ok (.iconst 1, 1) := by decide +kernel
theorem dX10_repair_15 : decode cX10_repair 15 = .ok (.invokevirtual 308, 3) := by decide +kernel
theorem dX10_repair_18 : decode cX10_repair 18 = .ok (.ireturn, 1) := by decide +kernel
theorem dX10_repair_19 : decode cX10_repair 19 = .ok (.aload_n 0, 1) := by decide +kernel
theorem dX10_repair_20 : decode cX10_repair 20 = .ok (.iload_n 1, 1) := by decide +kernel
theorem dX10_repair_21 : decode cX10_repair 21 = .ok (.invokevirtual 299, 3) := by decide +kernel
theorem dX10_repair_24 : decode cX10_repair 24 = .ok (.ifCond .ne 9, 3) := by decide +kernel
theorem dX10_repair_27 : decode cX10_repair 27 = .ok (.aload_n 0, 1) := by decide +kernel
theorem dX10_repair_28 : decode cX10_repair 28 = .ok (.iconst 2, 1) := by decide +kernel
theorem dX10_repair_29 : decode cX10_repair 29 = .ok (.invokevirtual 308, 3) := by decide +kernel
theorem dX10_repair_32 : decode cX10_repair 32 = .ok (.ireturn, 1) := by decide +kernel
theorem dX10_repair_33 : decode cX10_repair 33 = .ok (.aload_n 0, 1) := by decide +kernel
theorem dX10_repair_34 : decode cX10_repair 34 = .ok (.invokevirtual 320, 3) := by decide +kernel
theorem dX10_repair_37 : decode cX10_repair 37 = .ok (.aload_n 0, 1) := by decide +kernel
theorem dX10_repair_38 : decode cX10_repair 38 = .ok (.iload_n 1, 1) := by decide +kernel
theorem dX10_repair_39 : decode cX10_repair 39 = .ok (.invokevirtual 302, 3) := by decide +kernel
theorem dX10_repair_42 : decode cX10_repair 42 = .ok (.ireturn, 1) := by decide +kernel
theorem dX10_fund_0 : decode cX10_fund 0 = .ok (.aload_n 0, 1) := by decide +kernel
theorem dX10_fund_1 : decode cX10_fund 1 = .ok (.iconst 0, 1) := by decide +kernel
theorem dX10_fund_2 : decode cX10_fund 2 = .ok (.putfield 62, 3) := by decide +kernel
theorem dX10_fund_5 : decode cX10_fund 5 = .ok (.aload_n 0, 1) := by decide +kernel
theorem dX10_fund_6 : decode cX10_fund 6 = .ok (.iload_n 1, 1) := by decide +kernel
theorem dX10_fund_7 : decode cX10_fund 7 = .ok (.invokevirtual 278, 3) := by decide +kernel
theorem dX10_fund_10 : decode cX10_fund 10 = .ok (.ifCond .ne 9, 3) := by decide +kernel
theorem dX10_fund_13 : decode cX10_fund 13 = .ok (.aload_n 0, 1) := by decide +kernel
theorem dX10_fund_14 : decode cX10_fund 14 = .ok (.iconst 1, 1) := by decide +kernel
theorem dX10_fund_15 : decode cX10_fund 15 = .ok (.invokevirtual 308, 3) := by decide +kernel
theorem dX10_fund_18 : decode cX10_fund 18 = .ok (.ireturn, 1) := by decide +kernel
theorem dX10_fund_19 : decode cX10_fund 19 = .ok (.iload_n 2, 1) := by decide +kernel
theorem dX10_fund_20 : decode cX10_fund 20 = .ok (.iconst 1, 1) := by decide +kernel
theorem dX10_fund_21 : decode cX10_fund 21 = .ok (.sipush 999, 3) := by decide +kernel
theorem dX10_fund_24 : decode cX10_fund 24 = .ok (.invokestatic 75, 3) := by decide +kernel
theorem dX10_fund_27 : decode cX10_fund 27 = .ok (.ifCond .ne 9, 3) := by decide +kernel
theorem dX10_fund_30 : decode cX10_fund 30 = .ok (.aload_n 0, 1) := by decide +kernel
theorem dX10_fund_31 : decode cX10_fund 31 = .ok (.iconst 2, 1) := by decide +kernel
theorem dX10_fund_32 : decode cX10_fund 32 = .ok (.invokevirtual 308, 3) := by decide +kernel
theorem dX10_fund_35 : decode cX10_fund 35 = .ok (.ireturn, 1) := by decide +kernel
theorem dX10_fund_36 : decode cX10_fund 36 = .ok (.aload_n 0, 1) := by decide +kernel
theorem dX10_fund_37 : decode cX10_fund 37 = .ok (.invokevirtual 320, 3) := by decide +kernel
theorem dX10_fund_40 : decode cX10_fund 40 = .ok (.aload_n 0, 1) := by decide +kernel
theorem dX10_fund_41 : decode cX10_fund 41 = .ok (.iload_n 1, 1) := by decide +kernel
theorem dX10_fund_42 : decode cX10_fund 42 = .ok (.iload_n 2, 1) := by decide +kernel
theorem dX10_fund_43 : decode cX10_fund 43 = .ok (.invokevirtual 305, 3) := by decide +kernel
theorem dX10_fund_46 : decode cX10_fund 46 = .ok (.ireturn, 1) := by decide +kernel
theorem dX10_undo_0 : decode cX10_undo 0 = .ok (.aload_n 0, 1) := by decide +kernel
theorem dX10_undo_1 : decode cX10_undo 1 = .ok (.iconst 0, 1) := by decide +kernel
theorem dX10_undo_2 : decode cX10_undo 2 = .ok (.putfield 62, 3) := by decide +kernel
theorem dX10_undo_5 : decode cX10_undo 5 = .ok (.aload_n 0, 1) := by decide +kernel
theorem dX10_undo_6 : decode cX10_undo 6 = .ok (.getfield 65, 3) := by decide +kernel
theorem dX10_undo_9 : decode cX10_undo 9 = .ok (.ifCond .ne 9, 3) := by decide +kernel
theorem dX10_undo_12 : decode cX10_undo 12 = .ok (.aload_n 0, 1) := by decide +kernel
theorem dX10_undo_13 : decode cX10_undo 13 = .ok (.iconst 1, 1) := by decide +kernel
theorem dX10_undo_14 : decode cX10_undo 14 = .ok (.invokevirtual 308, 3) := by decide +kernel
theorem dX10_undo_17 : decode cX10_undo 17 = .ok (.ireturn, 1) := by decide +kernel
theorem dX10_undo_18 : decode cX10_undo 18 = .ok (.aload_n 0, 1) := by decide +kernel
theorem dX10_undo_19 : decode cX10_undo 19 = .ok (.dup, 1) := by decide +kernel
theorem dX10_undo_20 : decode cX10_undo 20 = .ok (.getfield 65, 3) := by decide +kernel
theorem dX10_undo_23 : decode cX10_undo 23 = .ok (.iconst 1, 1) := by decide +kernel
theorem dX10_undo_24 : decode cX10_undo 24 = .ok (.isub, 1) := by decide +kernel
theorem dX10_undo_25 : decode cX10_undo 25 = .ok (.putfield 65, 3) := by decide +kernel
theorem dX10_undo_28 : decode cX10_undo 28 = .ok (.aload_n 0, 1) := by decide +kernel
theorem dX10_undo_29 : decode cX10_undo 29 = .ok (.aload_n 0, 1) := by decide +kernel
theorem dX10_undo_30 : decode cX10_undo 30 = .ok (.getfield 68, 3) := by decide +kernel
theorem dX10_undo_33 : decode cX10_undo 33 = .ok (.aload_n 0, 1) := by decide +kernel
theorem dX10_undo_34 : decode cX10_undo 34 = .ok (.getfield 65, 3) := by decide +kernel
theorem dX10_undo_37 : decode cX10_undo 37 = .ok (.iadd, 1) := by decide +kernel
theorem dX10_undo_38 : decode cX10_undo 38 = .ok (.bipush 8, 2) := by decide +kernel
theorem dX10_undo_40 : decode cX10_undo 40 = .ok (.irem, 1) := by decide +kernel
theorem dX10_undo_41 : decode cX10_undo 41 = .ok (.invokevirtual 317, 3) := by decide +kernel
theorem dX10_undo_44 : decode cX10_undo 44 = .ok (.aload_n 0, 1) := by decide +kernel
theorem dX10_undo_45 : decode cX10_undo 45 = .ok (.getfield 65, 3) := by decide +kernel
theorem dX10_undo_48 : decode cX10_undo 48 = .ok (.ireturn, 1) := by decide +kernel
theorem dX10_saveSnapshot_0 : decode cX10_saveSnapshot 0 = .ok (.aload_n 0, 1) := by decide +kernel
theorem dX10_saveSnapshot_1 : decode cX10_saveSnapshot 1 = .ok (.iconst 0, 1) := by decide +kernel
theorem dX10_saveSnapshot_2 : decode cX10_saveSnapshot 2 = .ok (.putfield 62, 3) := by decide +kernel
theorem dX10_saveSnapshot_5 : decode cX10_saveSnapshot 5 = .ok (.iload_n 1, 1) := by decide +kernel
theorem dX10_saveSnapshot_6 : decode cX10_saveSnapshot 6 = .ok (.iconst 0, 1) := by decide +kernel
theorem dX10_saveSnapshot_7 : decode cX10_saveSnapshot 7 = .ok (.iconst 1, 1) := by decide +kernel
theorem dX10_saveSnapshot_8 : decode cX10_saveSnapshot 8 = .ok (.invokestatic 75, 3) := by decide +kernel
theorem dX10_saveSnapshot_11 : decode cX10_saveSnapshot 11 = .ok (.ifCond .ne 9, 3) := by decide +kernel
theorem dX10_saveSnapshot_14 : decode cX10_saveSnapshot 14 = .ok (.aload_n 0, 1) := by decide +kernel
theorem dX10_saveSnapshot_15 : decode cX10_saveSnapshot 15 = .ok (.iconst 1, 1) := by decide +kernel
theorem dX10_saveSnapshot_16 : decode cX10_saveSnapshot 16 = .ok (.putfield 62, 3) := by decide +kernel
theorem dX10_saveSnapshot_19 : decode cX10_saveSnapshot 19 = .ok (.return_, 1) := by decide +kernel
theorem dX10_saveSnapshot_20 : decode cX10_saveSnapshot 20 = .ok (.aload_n 0, 1) := by decide +kernel
theorem dX10_saveSnapshot_21 : decode cX10_saveSnapshot 21 = .ok (.bipush 8, 2) := by decide +kernel
theorem dX10_saveSnapshot_23 : decode cX10_saveSnapshot 23 = .ok (.iload_n 1, 1) := by decide +kernel
theorem dX10_saveSnapshot_24 : decode cX10_saveSnapshot 24 = .ok (.iadd, 1) := by decide +kernel
theorem dX10_saveSnapshot_25 : decode cX10_saveSnapshot 25 = .ok (.invokevirtual 71, 3) := by decide +kernel
theorem dX10_saveSnapshot_28 : decode cX10_saveSnapshot 28 = .ok (.aload_n 0, 1) := by decide +kernel
theorem dX10_saveSnapshot_29 : decode cX10_saveSnapshot 29 = .ok (.getfield 16, 3) := by decide +kernel
theorem dX10_saveSnapshot_32 : decode cX10_saveSnapshot 32 = .ok (.iload_n 1, 1) := by decide +kernel
theorem dX10_saveSnapshot_33 : decode cX10_saveSnapshot 33 = .ok (.iconst 1, 1) := by decide +kernel
theorem dX10_saveSnapshot_34 : decode cX10_saveSnapshot 34 = .ok (.bastore, 1) := by decide +kernel
theorem dX10_saveSnapshot_35 : decode cX10_saveSnapshot 35 = .ok (.return_, 1) := by decide +kernel
theorem dX10_restoreSnapshot_0 : decode cX10_restoreSnapshot 0 = .ok (.aload_n 0, 1) := by decide +kernel
theorem dX10_restoreSnapshot_1 : decode cX10_restoreSnapshot 1 = .ok (.iconst 0, 1) := by decide +kernel
theorem dX10_restoreSnapshot_2 : decode cX10_restoreSnapshot 2 = .ok (.putfield 62, 3) := by decide +kernel
theorem dX10_restoreSnapshot_5 : decode cX10_restoreSnapshot 5 = .ok (.iload_n 1, 1) := by decide +kernel
theorem dX10_restoreSnapshot_6 : decode cX10_restoreSnapshot 6 = .ok (.iconst 0, 1) := by decide +kernel
theorem dX10_restoreSnapshot_7 : decode cX10_restoreSnapshot 7 = .ok (.iconst 1, 1) := by decide +kernel
theorem dX10_restoreSnapshot_8 : decode cX10_restoreSnapshot 8 = .ok (.invokestatic 75, 3) := by decide +kernel
theorem dX10_restoreSnapshot_11 : decode cX10_restoreSnapshot 11 = .ok (.ifCond .ne 9, 3) := by decide +kernel
theorem dX10_restoreSnapshot_14 : decode cX10_restoreSnapshot 14 = .ok (.aload_n 0, 1) := by decide +kernel
theorem dX10_restoreSnapshot_15 : decode cX10_restoreSnapshot 15 = .ok (.iconst 1, 1) := by decide +kernel
theorem dX10_restoreSnapshot_16 : decode cX10_restoreSnapshot 16 = .ok (.invokevirtual 308, 3) := by decide +kernel
theorem dX10_restoreSnapshot_19 : decode cX10_restoreSnapshot 19 = .ok (.ireturn, 1) := by decide +kernel
theorem dX10_restoreSnapshot_20 : decode cX10_restoreSnapshot 20 = .ok (.aload_n 0, 1) := by decide +kernel
theorem dX10_restoreSnapshot_21 : decode cX10_restoreSnapshot 21 = .ok (.getfield 16, 3) := by decide +kernel
theorem dX10_restoreSnapshot_24 : decode cX10_restoreSnapshot 24 = .ok (.iload_n 1, 1) := by decide +kernel
theorem dX10_restoreSnapshot_25 : decode cX10_restoreSnapshot 25 = .ok (.baload, 1) := by decide +kernel
theorem dX10_restoreSnapshot_26 : decode cX10_restoreSnapshot 26 = .ok (.ifCond .ne 9, 3) := by decide +kernel
theorem dX10_restoreSnapshot_29 : decode cX10_restoreSnapshot 29 = .ok (.aload_n 0, 1) := by decide +kernel
theorem dX10_restoreSnapshot_30 : decode cX10_restoreSnapshot 30 = .ok (.iconst 2, 1) := by decide +kernel
theorem dX10_restoreSnapshot_31 : decode cX10_restoreSnapshot 31 = .ok (.invokevirtual 308, 3) := by decide +kernel
theorem dX10_restoreSnapshot_34 : decode cX10_restoreSnapshot 34 = .ok (.ireturn, 1) := by decide +kernel
theorem dX10_restoreSnapshot_35 : decode cX10_restoreSnapshot 35 = .ok (.aload_n 0, 1) := by decide +kernel
theorem dX10_restoreSnapshot_36 : decode cX10_restoreSnapshot 36 = .ok (.invokevirtual 320, 3) := by decide +kernel
theorem dX10_restoreSnapshot_39 : decode cX10_restoreSnapshot 39 = .ok (.aload_n 0, 1) := by decide +kernel
theorem dX10_restoreSnapshot_40 : decode cX10_restoreSnapshot 40 = .ok (.bipush 8, 2) := by decide +kernel
theorem dX10_restoreSnapshot_42 : decode cX10_restoreSnapshot 42 = .ok (.iload_n 1, 1) := by decide +kernel
theorem dX10_restoreSnapshot_43 : decode cX10_restoreSnapshot 43 = .ok (.iadd, 1) := by decide +kernel
theorem dX10_restoreSnapshot_44 : decode cX10_restoreSnapshot 44 = .ok (.invokevirtual 317, 3) := by decide +kernel
theorem dX10_restoreSnapshot_47 : decode cX10_restoreSnapshot 47 = .ok (.aload_n 0, 1) := by decide +kernel
theorem dX10_restoreSnapshot_48 : decode cX10_restoreSnapshot 48 = .ok (.getfield 7, 3) := by decide +kernel
theorem dX10_restoreSnapshot_51 : decode cX10_restoreSnapshot 51 = .ok (.bipush 7, 2) := by decide +kernel
theorem dX10_restoreSnapshot_53 : decode cX10_restoreSnapshot 53 = .ok (.iaload, 1) := by decide +kernel
theorem dX10_restoreSnapshot_54 : decode cX10_restoreSnapshot 54 = .ok (.ireturn, 1) := by decide +kernel
theorem dX10_hour_0 : decode cX10_hour 0 = .ok (.aload_n 0, 1) := by decide +kernel
theorem dX10_hour_1 : decode cX10_hour 1 = .ok (.iconst 0, 1) := by decide +kernel
theorem dX10_hour_2 : decode cX10_hour 2 = .ok (.putfield 62, 3) := by decide +kernel
theorem dX10_hour_5 : decode cX10_hour 5 = .ok (.aload_n 0, 1) := by decide +kernel
theorem dX10_hour_6 : decode cX10_hour 6 = .ok (.getfield 7, 3) := by decide +kernel
theorem dX10_hour_9 : decode cX10_hour 9 = .ok (.bipush 7, 2) := by decide +kernel
theorem dX10_hour_11 : decode cX10_hour 11 = .ok (.iaload, 1) := by decide +kernel
theorem dX10_hour_12 : decode cX10_hour 12 = .ok (.ireturn, 1) := by decide +kernel
theorem dX10_width_0 : decode cX10_width 0 = .ok (.aload_n 0, 1) := by decide +kernel
theorem dX10_width_1 : decode cX10_width 1 = .ok (.iconst 0, 1) := by decide +kernel
theorem dX10_width_2 : decode cX10_width 2 = .ok (.putfield 62, 3) := by decide +kernel
theorem dX10_width_5 : decode cX10_width 5 = .ok (.aload_n 0, 1) := by decide +kernel
theorem dX10_width_6 : decode cX10_width 6 = .ok (.getfield 7, 3) := by decide +kernel
theorem dX10_width_9 : decode cX10_width 9 = .ok (.iconst 0, 1) := by decide +kernel
theorem dX10_width_10 : decode cX10_width 10 = .ok (.iaload, 1) := by decide +kernel
theorem dX10_width_11 : decode cX10_width 11 = .ok (.ireturn, 1) := by decide +kernel
theorem dX10_height_0 : decode cX10_height 0 = .ok (.aload_n 0, 1) := by decide +kernel
theorem dX10_height_1 : decode cX10_height 1 = .ok (.iconst 0, 1) := by decide +kernel
theorem dX10_height_2 : decode cX10_height 2 = .ok (.putfield 62, 3) := by decide +kernel
theorem dX10_height_5 : decode cX10_height 5 = .ok (.aload_n 0, 1) := by decide +kernel
theorem dX10_height_6 : decode cX10_height 6 = .ok (.getfield 7, 3) := by decide +kernel
theorem dX10_height_9 : decode cX10_height 9 = .ok (.iconst 1, 1) := by decide +kernel
theorem dX10_height_10 : decode cX10_height 10 = .ok (.iaload, 1) := by decide +kernel
theorem dX10_height_11 : decode cX10_height 11 = .ok (.ireturn, 1) := by decide +kernel
theorem dX10_fee_0 : decode cX10_fee 0 = .ok (.aload_n 0, 1) := by decide +kernel
theorem dX10_fee_1 : decode cX10_fee 1 = .ok (.iconst 0, 1) := by decide +kernel
theorem dX10_fee_2 : decode cX10_fee 2 = .ok (.putfield 62, 3) := by decide +kernel
theorem dX10_fee_5 : decode cX10_fee 5 = .ok (.aload_n 0, 1) := by decide +kernel
theorem dX10_fee_6 : decode cX10_fee 6 = .ok (.getfield 7, 3) := by decide +kernel
theorem dX10_fee_9 : decode cX10_fee 9 = .ok (.iconst 2, 1) := by decide +kernel
theorem dX10_fee_10 : decode cX10_fee 10 = .ok (.iaload, 1) := by decide +kernel
theorem dX10_fee_11 : decode cX10_fee 11 = .ok (.ireturn, 1) := by decide +kernel
theorem dX10_fine_0 : decode cX10_fine 0 = .ok (.aload_n 0, 1) := by decide +kernel
theorem dX10_fine_1 : decode cX10_fine 1 = .ok (.iconst 0, 1) := by decide +kernel
theorem dX10_fine_2 : decode cX10_fine 2 = .ok (.putfield 62, 3) := by decide +kernel
theorem dX10_fine_5 : decode cX10_fine 5 = .ok (.aload_n 0, 1) := by decide +kernel
theorem dX10_fine_6 : decode cX10_fine 6 = .ok (.getfield 7, 3) := by decide +kernel
theorem dX10_fine_9 : decode cX10_fine 9 = .ok (.iconst 3, 1) := by decide +kernel
theorem dX10_fine_10 : decode cX10_fine 10 = .ok (.iaload, 1) := by decide +kernel
theorem dX10_fine_11 : decode cX10_fine 11 = .ok (.ireturn, 1) := by decide +kernel
theorem dX10_zoneCount_0 : decode cX10_zoneCount 0 = .ok (.aload_n 0, 1) := by decide +kernel
theorem dX10_zoneCount_1 : decode cX10_zoneCount 1 = .ok (.iconst 0, 1) := by decide +kernel
theorem dX10_zoneCount_2 : decode cX10_zoneCount 2 = .ok (.putfield 62, 3) := by decide +kernel
theorem dX10_zoneCount_5 : decode cX10_zoneCount 5 = .ok (.aload_n 0, 1) := by decide +kernel
theorem dX10_zoneCount_6 : decode cX10_zoneCount 6 = .ok (.getfield 7, 3) := by decide +kernel
theorem dX10_zoneCount_9 : decode cX10_zoneCount 9 = .ok (.iconst 4, 1) := by decide +kernel
theorem dX10_zoneCount_10 : decode cX10_zoneCount 10 = .ok (.iaload, 1) := by decide +kernel
theorem dX10_zoneCount_11 : decode cX10_zoneCount 11 = .ok (.ireturn, 1) := by decide +kernel
theorem dX10_windDirection_0 : decode cX10_windDirection 0 = .ok (.aload_n 0, 1) := by decide +kernel
theorem dX10_windDirection_1 : decode cX10_windDirection 1 = .ok (.iconst 0, 1) := by decide +kernel
theorem dX10_windDirection_2 : decode cX10_windDirection 2 = .ok (.putfield 62, 3) := by decide +kernel
theorem dX10_windDirection_5 : decode cX10_windDirection 5 = .ok (.aload_n 0, 1) := by decide +kernel
theorem dX10_windDirection_6 : decode cX10_windDirection 6 = .ok (.iload_n 1, 1) := by decide +kernel
theorem dX10_windDirection_7 : decode cX10_windDirection 7 = .ok (.invokevirtual 338, 3) := by decide +kernel
theorem dX10_windDirection_10 : decode cX10_windDirection 10 = .ok (.ifCond .ne 9, 3) := by decide +kernel
theorem dX10_windDirection_13 : decode cX10_windDirection 13 = .ok (.aload_n 0, 1) := by decide +kernel
theorem dX10_windDirection_14 : decode cX10_windDirection 14 = .ok (.iconst 1, 1) := by decide +kernel
theorem dX10_windDirection_15 : decode cX10_windDirection 15 = .ok (.invokevirtual 308, 3) := by decide +kernel
theorem dX10_windDirection_18 : decode cX10_windDirection 18 = .ok (.ireturn, 1) := by decide +kernel
theorem dX10_windDirection_19 : decode cX10_windDirection 19 = .ok (.iload_n 2, 1) := by decide +kernel
theorem dX10_windDirection_20 : decode cX10_windDirection 20 = .ok (.invokestatic 335, 3) := by decide +kernel
theorem dX10_windDirection_23 : decode cX10_windDirection 23 = .ok (.ifCond .eq 12, 3) := by decide +kernel
theorem dX10_windDirection_26 : decode cX10_windDirection 26 = .ok (.aload_n 0, 1) := by decide +kernel
theorem dX10_windDirection_27 : decode cX10_windDirection 27 = .ok (.iload_n 1, 1) := by decide +kernel
theorem dX10_windDirection_28 : decode cX10_windDirection 28 = .ok (.iload_n 2, 1) := by decide +kernel
theorem dX10_windDirection_29 : decode cX10_windDirection 29 = .ok (.invokevirtual 97, 3) := by decide +kernel
theorem dX10_windDirection_32 : decode cX10_windDirection 32 = .ok (.goto 8, 3) := by decide +kernel
theorem dX10_windDirection_35 : decode cX10_windDirection 35 = .ok (.aload_n 0, 1) := by decide +kernel
theorem dX10_windDirection_36 : decode cX10_windDirection 36 = .ok (.iconst 2, 1) := by decide +kernel
theorem dX10_windDirection_37 : decode cX10_windDirection 37 = .ok (.invokevirtual 308, 3) := by decide +kernel
theorem dX10_windDirection_40 : decode cX10_windDirection 40 = .ok (.ireturn, 1) := by decide +kernel
theorem dX10_windForce_0 : decode cX10_windForce 0 = .ok (.aload_n 0, 1) := by decide +kernel
theorem dX10_windForce_1 : decode cX10_windForce 1 = .ok (.iconst 0, 1) := by decide +kernel
theorem dX10_windForce_2 : decode cX10_windForce 2 = .ok (.putfield 62, 3) := by decide +kernel
theorem dX10_windForce_5 : decode cX10_windForce 5 = .ok (.aload_n 0, 1) := by decide +kernel
theorem dX10_windForce_6 : decode cX10_windForce 6 = .ok (.iload_n 1, 1) := by decide +kernel
theorem dX10_windForce_7 : decode cX10_windForce 7 = .ok (.invokevirtual 338, 3) := by decide +kernel
theorem dX10_windForce_10 : decode cX10_windForce 10 = .ok (.ifCond .ne 9, 3) := by decide +kernel
theorem dX10_windForce_13 : decode cX10_windForce 13 = .ok (.aload_n 0, 1) := by decide +kernel
theorem dX10_windForce_14 : decode cX10_windForce 14 = .ok (.iconst 1, 1) := by decide +kernel
theorem dX10_windForce_15 : decode cX10_windForce 15 = .ok (.invokevirtual 308, 3) := by decide +kernel
theorem dX10_windForce_18 : decode cX10_windForce 18 = .ok (.ireturn, 1) := by decide +kernel
theorem dX10_windForce_19 : decode cX10_windForce 19 = .ok (.iload_n 2, 1) := by decide +kernel
theorem dX10_windForce_20 : decode cX10_windForce 20 = .ok (.invokestatic 335, 3) := by decide +kernel
theorem dX10_windForce_23 : decode cX10_windForce 23 = .ok (.ifCond .eq 12, 3) := by decide +kernel
theorem dX10_windForce_26 : decode cX10_windForce 26 = .ok (.aload_n 0, 1) := by decide +kernel
theorem dX10_windForce_27 : decode cX10_windForce 27 = .ok (.iload_n 1, 1) := by decide +kernel
theorem dX10_windForce_28 : decode cX10_windForce 28 = .ok (.iload_n 2, 1) := by decide +kernel
theorem dX10_windForce_29 : decode cX10_windForce 29 = .ok (.invokevirtual 87, 3) := by decide +kernel
theorem dX10_windForce_32 : decode cX10_windForce 32 = .ok (.goto 8, 3) := by decide +kernel
theorem dX10_windForce_35 : decode cX10_windForce 35 = .ok (.aload_n 0, 1) := by decide +kernel
theorem dX10_windForce_36 : decode cX10_windForce 36 = .ok (.iconst 2, 1) := by decide +kernel
theorem dX10_windForce_37 : decode cX10_windForce 37 = .ok (.invokevirtual 308, 3) := by decide +kernel
theorem dX10_windForce_40 : decode cX10_windForce 40 = .ok (.ireturn, 1) := by decide +kernel
theorem dX10_colourCount_0 : decode cX10_colourCount 0 = .ok (.aload_n 0, 1) := by decide +kernel
theorem dX10_colourCount_1 : decode cX10_colourCount 1 = .ok (.iconst 0, 1) := by decide +kernel
theorem dX10_colourCount_2 : decode cX10_colourCount 2 = .ok (.putfield 62, 3) := by decide +kernel
theorem dX10_colourCount_5 : decode cX10_colourCount 5 = .ok (.aload_n 0, 1) := by decide +kernel
theorem dX10_colourCount_6 : decode cX10_colourCount 6 = .ok (.getfield 7, 3) := by decide +kernel
theorem dX10_colourCount_9 : decode cX10_colourCount 9 = .ok (.iconst 5, 1) := by decide +kernel
theorem dX10_colourCount_10 : decode cX10_colourCount 10 = .ok (.iaload, 1) := by decide +kernel
theorem dX10_colourCount_11 : decode cX10_colourCount 11 = .ok (.ireturn, 1) := by decide +kernel
theorem dX10_quota_0 : decode cX10_quota 0 = .ok (.aload_n 0, 1) := by decide +kernel
theorem dX10_quota_1 : decode cX10_quota 1 = .ok (.iconst 0, 1) := by decide +kernel
theorem dX10_quota_2 : decode cX10_quota 2 = .ok (.putfield 62, 3) := by decide +kernel
theorem dX10_quota_5 : decode cX10_quota 5 = .ok (.aload_n 0, 1) := by decide +kernel
theorem dX10_quota_6 : decode cX10_quota 6 = .ok (.iload_n 1, 1) := by decide +kernel
theorem dX10_quota_7 : decode cX10_quota 7 = .ok (.invokevirtual 332, 3) := by decide +kernel
theorem dX10_quota_10 : decode cX10_quota 10 = .ok (.ifCond .eq 15, 3) := by decide +kernel
theorem dX10_quota_13 : decode cX10_quota 13 = .ok (.aload_n 0, 1) := by decide +kernel
theorem dX10_quota_14 : decode cX10_quota 14 = .ok (.getfield 7, 3) := by decide +kernel
theorem dX10_quota_17 : decode cX10_quota 17 = .ok (.bipush 64, 2) := by decide +kernel
theorem dX10_quota_19 : decode cX10_quota 19 = .ok (.iload_n 1, 1) := by decide +kernel
theorem dX10_quota_20 : decode cX10_quota 20 = .ok (.iadd, 1) := by decide +kernel
theorem dX10_quota_21 : decode cX10_quota 21 = .ok (.iaload, 1) := by decide +kernel
theorem dX10_quota_22 : decode cX10_quota 22 = .ok (.goto 8, 3) := by decide +kernel
theorem dX10_quota_25 : decode cX10_quota 25 = .ok (.aload_n 0, 1) := by decide +kernel
theorem dX10_quota_26 : decode cX10_quota 26 = .ok (.iconst 1, 1) := by decide +kernel
theorem dX10_quota_27 : decode cX10_quota 27 = .ok (.invokevirtual 308, 3) := by decide +kernel
theorem dX10_quota_30 : decode cX10_quota 30 = .ok (.ireturn, 1) := by decide +kernel
theorem dX10_quotaUsed_0 : decode cX10_quotaUsed 0 = .ok (.aload_n 0, 1) := by decide +kernel
theorem dX10_quotaUsed_1 : decode cX10_quotaUsed 1 = .ok (.iconst 0, 1) := by decide +kernel
theorem dX10_quotaUsed_2 : decode cX10_quotaUsed 2 = .ok (.putfield 62, 3) := by decide +kernel
theorem dX10_quotaUsed_5 : decode cX10_quotaUsed 5 = .ok (.aload_n 0, 1) := by decide +kernel
theorem dX10_quotaUsed_6 : decode cX10_quotaUsed 6 = .ok (.iload_n 1, 1) := by decide +kernel
theorem dX10_quotaUsed_7 : decode cX10_quotaUsed 7 = .ok (.invokevirtual 332, 3) := by decide +kernel
theorem dX10_quotaUsed_10 : decode cX10_quotaUsed 10 = .ok (.ifCond .ne 9, 3) := by decide +kernel
theorem dX10_quotaUsed_13 : decode cX10_quotaUsed 13 = .ok (.aload_n 0, 1) := by decide +kernel
theorem dX10_quotaUsed_14 : decode cX10_quotaUsed 14 = .ok (.iconst 1, 1) := by decide +kernel
theorem dX10_quotaUsed_15 : decode cX10_quotaUsed 15 = .ok (.invokevirtual 308, 3) := by decide +kernel
theorem dX10_quotaUsed_18 : decode cX10_quotaUsed 18 = .ok (.ireturn, 1) := by decide +kernel
theorem dX10_quotaUsed_19 : decode cX10_quotaUsed 19 = .ok (.iload_n 2, 1) := by decide +kernel
theorem dX10_quotaUsed_20 : decode cX10_quotaUsed 20 = .ok (.invokestatic 335, 3) := by decide +kernel
theorem dX10_quotaUsed_23 : decode cX10_quotaUsed 23 = .ok (.ifCond .eq 12, 3) := by decide +kernel
theorem dX10_quotaUsed_26 : decode cX10_quotaUsed 26 = .ok (.aload_n 0, 1) := by decide +kernel
theorem dX10_quotaUsed_27 : decode cX10_quotaUsed 27 = .ok (.iload_n 1, 1) := by decide +kernel
theorem dX10_quotaUsed_28 : decode cX10_quotaUsed 28 = .ok (.iload_n 2, 1) := by decide +kernel
theorem dX10_quotaUsed_29 : decode cX10_quotaUsed 29 = .ok (.invokevirtual 147, 3) := by decide +kernel
theorem dX10_quotaUsed_32 : decode cX10_quotaUsed 32 = .ok (.goto 8, 3) := by decide +kernel
theorem dX10_quotaUsed_35 : decode cX10_quotaUsed 35 = .ok (.aload_n 0, 1) := by decide +kernel
theorem dX10_quotaUsed_36 : decode cX10_quotaUsed 36 = .ok (.iconst 2, 1) := by decide +kernel
theorem dX10_quotaUsed_37 : decode cX10_quotaUsed 37 = .ok (.invokevirtual 308, 3) := by decide +kernel
theorem dX10_quotaUsed_40 : decode cX10_quotaUsed 40 = .ok (.ireturn, 1) := by decide +kernel
theorem dX10_kiteCount_0 : decode cX10_kiteCount 0 = .ok (.aload_n 0, 1) := by decide +kernel
theorem dX10_kiteCount_1 : decode cX10_kiteCount 1 = .ok (.iconst 0, 1) := by decide +kernel
theorem dX10_kiteCount_2 : decode cX10_kiteCount 2 = .ok (.putfield 62, 3) := by decide +kernel
theorem dX10_kiteCount_5 : decode cX10_kiteCount 5 = .ok (.aload_n 0, 1) := by decide +kernel
theorem dX10_kiteCount_6 : decode cX10_kiteCount 6 = .ok (.getfield 7, 3) := by decide +kernel
theorem dX10_kiteCount_9 : decode cX10_kiteCount 9 = .ok (.bipush 6, 2) := by decide +kernel
theorem dX10_kiteCount_11 : decode cX10_kiteCount 11 = .ok (.iaload, 1) := by decide +kernel
theorem dX10_kiteCount_12 : decode cX10_kiteCount 12 = .ok (.ireturn, 1) := by decide +kernel
theorem dX10_anchorX_0 : decode cX10_anchorX 0 = .ok (.aload_n 0, 1) := by decide +kernel
theorem dX10_anchorX_1 : decode cX10_anchorX 1 = .ok (.iconst 0, 1) := by decide +kernel
theorem dX10_anchorX_2 : decode cX10_anchorX 2 = .ok (.putfield 62, 3) := by decide +kernel
theorem dX10_anchorX_5 : decode cX10_anchorX 5 = .ok (.aload_n 0, 1) := by decide +kernel
theorem dX10_anchorX_6 : decode cX10_anchorX 6 = .ok (.iload_n 1, 1) := by decide +kernel
theorem dX10_anchorX_7 : decode cX10_anchorX 7 = .ok (.invokevirtual 278, 3) := by decide +kernel
theorem dX10_anchorX_10 : decode cX10_anchorX 10 = .ok (.ifCond .eq 12, 3) := by decide +kernel
theorem dX10_anchorX_13 : decode cX10_anchorX 13 = .ok (.aload_n 0, 1) := by decide +kernel
theorem dX10_anchorX_14 : decode cX10_anchorX 14 = .ok (.iload_n 1, 1) := by decide +kernel
theorem dX10_anchorX_15 : decode cX10_anchorX 15 = .ok (.iconst 0, 1) := by decide +kernel
theorem dX10_anchorX_16 : decode cX10_anchorX 16 = .ok (.invokevirtual 79, 3) := by decide +kernel
theorem dX10_anchorX_19 : decode cX10_anchorX 19 = .ok (.goto 8, 3) := by decide +kernel
theorem dX10_anchorX_22 : decode cX10_anchorX 22 = .ok (.aload_n 0, 1) := by decide +kernel
theorem dX10_anchorX_23 : decode cX10_anchorX 23 = .ok (.iconst 1, 1) := by decide +kernel
theorem dX10_anchorX_24 : decode cX10_anchorX 24 = .ok (.invokevirtual 308, 3) := by decide +kernel
theorem dX10_anchorX_27 : decode cX10_anchorX 27 = .ok (.ireturn, 1) := by decide +kernel
theorem dX10_anchorY_0 : decode cX10_anchorY 0 = .ok (.aload_n 0, 1) := by decide +kernel
theorem dX10_anchorY_1 : decode cX10_anchorY 1 = .ok (.iconst 0, 1) := by decide +kernel
theorem dX10_anchorY_2 : decode cX10_anchorY 2 = .ok (.putfield 62, 3) := by decide +kernel
theorem dX10_anchorY_5 : decode cX10_anchorY 5 = .ok (.aload_n 0, 1) := by decide +kernel
theorem dX10_anchorY_6 : decode cX10_anchorY 6 = .ok (.iload_n 1, 1) := by decide +kernel
theorem dX10_anchorY_7 : decode cX10_anchorY 7 = .ok (.invokevirtual 278, 3) := by decide +kernel
theorem dX10_anchorY_10 : decode cX10_anchorY 10 = .ok (.ifCond .eq 12, 3) := by decide +kernel
theorem dX10_anchorY_13 : decode cX10_anchorY 13 = .ok (.aload_n 0, 1) := by decide +kernel
theorem dX10_anchorY_14 : decode cX10_anchorY 14 = .ok (.iload_n 1, 1) := by decide +kernel
theorem dX10_anchorY_15 : decode cX10_anchorY 15 = .ok (.iconst 1, 1) := by decide +kernel
theorem dX10_anchorY_16 : decode cX10_anchorY 16 = .ok (.invokevirtual 79, 3) := by decide +kernel
theorem dX10_anchorY_19 : decode cX10_anchorY 19 = .ok (.goto 8, 3) := by decide +kernel
theorem dX10_anchorY_22 : decode cX10_anchorY 22 = .ok (.aload_n 0, 1) := by decide +kernel
theorem dX10_anchorY_23 : decode cX10_anchorY 23 = .ok (.iconst 1, 1) := by decide +kernel
theorem dX10_anchorY_24 : decode cX10_anchorY 24 = .ok (.invokevirtual 308, 3) := by decide +kernel
theorem dX10_anchorY_27 : decode cX10_anchorY 27 = .ok (.ireturn, 1) := by decide +kernel
theorem dX10_stringLength_0 : decode cX10_stringLength 0 = .ok (.aload_n 0, 1) := by decide +kernel
theorem dX10_stringLength_1 : decode cX10_stringLength 1 = .ok (.iconst 0, 1) := by decide +kernel
theorem dX10_stringLength_2 : decode cX10_stringLength 2 = .ok (.putfield 62, 3) := by decide +kernel
theorem dX10_stringLength_5 : decode cX10_stringLength 5 = .ok (.aload_n 0, 1) := by decide +kernel
theorem dX10_stringLength_6 : decode cX10_stringLength 6 = .ok (.iload_n 1, 1) := by decide +kernel
theorem dX10_stringLength_7 : decode cX10_stringLength 7 = .ok (.invokevirtual 278, 3) := by decide +kernel
theorem dX10_stringLength_10 : decode cX10_stringLength 10 = .ok (.ifCond .eq 12, 3) := by decide +kernel
theorem dX10_stringLength_13 : decode cX10_stringLength 13 = .ok (.aload_n 0, 1) := by decide +kernel
theorem dX10_stringLength_14 : decode cX10_stringLength 14 = .ok (.iload_n 1, 1) := by decide +kernel
theorem dX10_stringLength_15 : decode cX10_stringLength 15 = .ok (.iconst 2, 1) := by decide +kernel
theorem dX10_stringLength_16 : decode cX10_stringLength 16 = .ok (.invokevirtual 79, 3) := by decide +kernel
theorem dX10_stringLength_19 : decode cX10_stringLength 19 = .ok (.goto 8, 3) := by decide +kernel
theorem dX10_stringLength_22 : decode cX10_stringLength 22 = .ok (.aload_n 0, 1) := by decide +kernel
theorem dX10_stringLength_23 : decode cX10_stringLength 23 = .ok (.iconst 1, 1) := by decide +kernel
theorem dX10_stringLength_24 : decode cX10_stringLength 24 = .ok (.invokevirtual 308, 3) := by decide +kernel
theorem dX10_stringLength_27 : decode cX10_stringLength 27 = .ok (.ireturn, 1) := by decide +kernel
theorem dX10_colourOf_0 : decode cX10_colourOf 0 = .ok (.aload_n 0, 1) := by decide +kernel
theorem dX10_colourOf_1 : decode cX10_colourOf 1 = .ok (.iconst 0, 1) := by decide +kernel
theorem dX10_colourOf_2 : decode cX10_colourOf 2 = .ok (.putfield 62, 3) := by decide +kernel
theorem dX10_colourOf_5 : decode cX10_colourOf 5 = .ok (.aload_n 0, 1) := by decide +kernel
theorem dX10_colourOf_6 : decode cX10_colourOf 6 = .ok (.iload_n 1, 1) := by decide +kernel
theorem dX10_colourOf_7 : decode cX10_colourOf 7 = .ok (.invokevirtual 278, 3) := by decide +kernel
theorem dX10_colourOf_10 : decode cX10_colourOf 10 = .ok (.ifCond .eq 12, 3) := by decide +kernel
theorem dX10_colourOf_13 : decode cX10_colourOf 13 = .ok (.aload_n 0, 1) := by decide +kernel
theorem dX10_colourOf_14 : decode cX10_colourOf 14 = .ok (.iload_n 1, 1) := by decide +kernel
theorem dX10_colourOf_15 : decode cX10_colourOf 15 = .ok (.iconst 3, 1) := by decide +kernel
theorem dX10_colourOf_16 : decode cX10_colourOf 16 = .ok (.invokevirtual 79, 3) := by decide +kernel
theorem dX10_colourOf_19 : decode cX10_colourOf 19 = .ok (.goto 8, 3) := by decide +kernel
theorem dX10_colourOf_22 : decode cX10_colourOf 22 = .ok (.aload_n 0, 1) := by decide +kernel
theorem dX10_colourOf_23 : decode cX10_colourOf 23 = .ok (.iconst 1, 1) := by decide +kernel
theorem dX10_colourOf_24 : decode cX10_colourOf 24 = .ok (.invokevirtual 308, 3) := by decide +kernel
theorem dX10_colourOf_27 : decode cX10_colourOf 27 = .ok (.ireturn, 1) := by decide +kernel
theorem dX10_knots_0 : decode cX10_knots 0 = .ok (.aload_n 0, 1) := by decide +kernel
theorem dX10_knots_1 : decode cX10_knots 1 = .ok (.iconst 0, 1) := by decide +kernel
theorem dX10_knots_2 : decode cX10_knots 2 = .ok (.putfield 62, 3) := by decide +kernel
theorem dX10_knots_5 : decode cX10_knots 5 = .ok (.aload_n 0, 1) := by decide +kernel
theorem dX10_knots_6 : decode cX10_knots 6 = .ok (.iload_n 1, 1) := by decide +kernel
theorem dX10_knots_7 : decode cX10_knots 7 = .ok (.invokevirtual 278, 3) := by decide +kernel
theorem dX10_knots_10 : decode cX10_knots 10 = .ok (.ifCond .eq 12, 3) := by decide +kernel
theorem dX10_knots_13 : decode cX10_knots 13 = .ok (.aload_n 0, 1) := by decide +kernel
theorem dX10_knots_14 : decode cX10_knots 14 = .ok (.iload_n 1, 1) := by decide +kernel
theorem dX10_knots_15 : decode cX10_knots 15 = .ok (.iconst 4, 1) := by decide +kernel
theorem dX10_knots_16 : decode cX10_knots 16 = .ok (.invokevirtual 79, 3) := by decide +kernel
theorem dX10_knots_19 : decode cX10_knots 19 = .ok (.goto 8, 3) := by decide +kernel
theorem dX10_knots_22 : decode cX10_knots 22 = .ok (.aload_n 0, 1) := by decide +kernel
theorem dX10_knots_23 : decode cX10_knots 23 = .ok (.iconst 1, 1) := by decide +kernel
theorem dX10_knots_24 : decode cX10_knots 24 = .ok (.invokevirtual 308, 3) := by decide +kernel
theorem dX10_knots_27 : decode cX10_knots 27 = .ok (.ireturn, 1) := by decide +kernel
theorem dX10_purse_0 : decode cX10_purse 0 = .ok (.aload_n 0, 1) := by decide +kernel
theorem dX10_purse_1 : decode cX10_purse 1 = .ok (.iconst 0, 1) := by decide +kernel
theorem dX10_purse_2 : decode cX10_purse 2 = .ok (.putfield 62, 3) := by decide +kernel
theorem dX10_purse_5 : decode cX10_purse 5 = .ok (.aload_n 0, 1) := by decide +kernel
theorem dX10_purse_6 : decode cX10_purse 6 = .ok (.iload_n 1, 1) := by decide +kernel
theorem dX10_purse_7 : decode cX10_purse 7 = .ok (.invokevirtual 278, 3) := by decide +kernel
theorem dX10_purse_10 : decode cX10_purse 10 = .ok (.ifCond .eq 12, 3) := by decide +kernel
theorem dX10_purse_13 : decode cX10_purse 13 = .ok (.aload_n 0, 1) := by decide +kernel
theorem dX10_purse_14 : decode cX10_purse 14 = .ok (.iload_n 1, 1) := by decide +kernel
theorem dX10_purse_15 : decode cX10_purse 15 = .ok (.iconst 5, 1) := by decide +kernel
theorem dX10_purse_16 : decode cX10_purse 16 = .ok (.invokevirtual 79, 3) := by decide +kernel
theorem dX10_purse_19 : decode cX10_purse 19 = .ok (.goto 8, 3) := by decide +kernel
theorem dX10_purse_22 : decode cX10_purse 22 = .ok (.aload_n 0, 1) := by decide +kernel
theorem dX10_purse_23 : decode cX10_purse 23 = .ok (.iconst 1, 1) := by decide +kernel
theorem dX10_purse_24 : decode cX10_purse 24 = .ok (.invokevirtual 308, 3) := by decide +kernel
theorem dX10_purse_27 : decode cX10_purse 27 = .ok (.ireturn, 1) := by decide +kernel
theorem dX10_stateOf_0 : decode cX10_stateOf 0 = .ok (.aload_n 0, 1) := by decide +kernel
theorem dX10_stateOf_1 : decode cX10_stateOf 1 = .ok (.iconst 0, 1) := by decide +kernel
theorem dX10_stateOf_2 : decode cX10_stateOf 2 = .ok (.putfield 62, 3) := by decide +kernel
theorem dX10_stateOf_5 : decode cX10_stateOf 5 = .ok (.aload_n 0, 1) := by decide +kernel
theorem dX10_stateOf_6 : decode cX10_stateOf 6 = .ok (.iload_n 1, 1) := by decide +kernel
theorem dX10_stateOf_7 : decode cX10_stateOf 7 = .ok (.invokevirtual 278, 3) := by decide +kernel
theorem dX10_stateOf_10 : decode cX10_stateOf 10 = .ok (.ifCond .eq 13, 3) := by decide +kernel
theorem dX10_stateOf_13 : decode cX10_stateOf 13 = .ok (.aload_n 0, 1) := by decide +kernel
theorem dX10_stateOf_14 : decode cX10_stateOf 14 = .ok (.iload_n 1, 1) := by decide +kernel
theorem dX10_stateOf_15 : decode cX10_stateOf 15 = .ok (.bipush 6, 2) := by decide +kernel
theorem dX10_stateOf_17 : decode cX10_stateOf 17 = .ok (.invokevirtual 79, 3) := by decide +kernel
theorem dX10_stateOf_20 : decode cX10_stateOf 20 = .ok (.goto 8, 3) := by decide +kernel
theorem dX10_stateOf_23 : decode cX10_stateOf 23 = .ok (.aload_n 0, 1) := by decide +kernel
theorem dX10_stateOf_24 : decode cX10_stateOf 24 = .ok (.iconst 1, 1) := by decide +kernel
theorem dX10_stateOf_25 : decode cX10_stateOf 25 = .ok (.invokevirtual 308, 3) := by decide +kernel
theorem dX10_stateOf_28 : decode cX10_stateOf 28 = .ok (.ireturn, 1) := by decide +kernel
theorem dX10_zoneOf_0 : decode cX10_zoneOf 0 = .ok (.aload_n 0, 1) := by decide +kernel
theorem dX10_zoneOf_1 : decode cX10_zoneOf 1 = .ok (.iconst 0, 1) := by decide +kernel
theorem dX10_zoneOf_2 : decode cX10_zoneOf 2 = .ok (.putfield 62, 3) := by decide +kernel
theorem dX10_zoneOf_5 : decode cX10_zoneOf 5 = .ok (.aload_n 0, 1) := by decide +kernel
theorem dX10_zoneOf_6 : decode cX10_zoneOf 6 = .ok (.iload_n 1, 1) := by decide +kernel
theorem dX10_zoneOf_7 : decode cX10_zoneOf 7 = .ok (.invokevirtual 278, 3) := by decide +kernel
theorem dX10_zoneOf_10 : decode cX10_zoneOf 10 = .ok (.ifCond .eq 11, 3) := by decide +kernel
theorem dX10_zoneOf_13 : decode cX10_zoneOf 13 = .ok (.aload_n 0, 1) := by decide +kernel
theorem dX10_zoneOf_14 : decode cX10_zoneOf 14 = .ok (.iload_n 1, 1) := by decide +kernel
theorem dX10_zoneOf_15 : decode cX10_zoneOf 15 = .ok (.invokevirtual 83, 3) := by decide +kernel
theorem dX10_zoneOf_18 : decode cX10_zoneOf 18 = .ok (.goto 8, 3) := by decide +kernel
theorem dX10_zoneOf_21 : decode cX10_zoneOf 21 = .ok (.aload_n 0, 1) := by decide +kernel
theorem dX10_zoneOf_22 : decode cX10_zoneOf 22 = .ok (.iconst 1, 1) := by decide +kernel
theorem dX10_zoneOf_23 : decode cX10_zoneOf 23 = .ok (.invokevirtual 308, 3) := by decide +kernel
theorem dX10_zoneOf_26 : decode cX10_zoneOf 26 = .ok (.ireturn, 1) := by decide +kernel
theorem dX10_tangles_0 : decode cX10_tangles 0 = .ok (.aload_n 0, 1) := by decide +kernel
theorem dX10_tangles_1 : decode cX10_tangles 1 = .ok (.iconst 0, 1) := by decide +kernel
theorem dX10_tangles_2 : decode cX10_tangles 2 = .ok (.putfield 62, 3) := by decide +kernel
theorem dX10_tangles_5 : decode cX10_tangles 5 = .ok (.aload_n 0, 1) := by decide +kernel
theorem dX10_tangles_6 : decode cX10_tangles 6 = .ok (.iload_n 1, 1) := by decide +kernel
theorem dX10_tangles_7 : decode cX10_tangles 7 = .ok (.invokevirtual 278, 3) := by decide +kernel
theorem dX10_tangles_10 : decode cX10_tangles 10 = .ok (.ifCond .eq 13, 3) := by decide +kernel
theorem dX10_tangles_13 : decode cX10_tangles 13 = .ok (.aload_n 0, 1) := by decide +kernel
theorem dX10_tangles_14 : decode cX10_tangles 14 = .ok (.iload_n 1, 1) := by decide +kernel
theorem dX10_tangles_15 : decode cX10_tangles 15 = .ok (.bipush 7, 2) := by decide +kernel
theorem dX10_tangles_17 : decode cX10_tangles 17 = .ok (.invokevirtual 79, 3) := by decide +kernel
theorem dX10_tangles_20 : decode cX10_tangles 20 = .ok (.goto 8, 3) := by decide +kernel
theorem dX10_tangles_23 : decode cX10_tangles 23 = .ok (.aload_n 0, 1) := by decide +kernel
theorem dX10_tangles_24 : decode cX10_tangles 24 = .ok (.iconst 1, 1) := by decide +kernel
theorem dX10_tangles_25 : decode cX10_tangles 25 = .ok (.invokevirtual 308, 3) := by decide +kernel
theorem dX10_tangles_28 : decode cX10_tangles 28 = .ok (.ireturn, 1) := by decide +kernel
theorem dX10_asks_0 : decode cX10_asks 0 = .ok (.aload_n 0, 1) := by decide +kernel
theorem dX10_asks_1 : decode cX10_asks 1 = .ok (.aload_n 0, 1) := by decide +kernel
theorem dX10_asks_2 : decode cX10_asks 2 = .ok (.iload_n 1, 1) := by decide +kernel
theorem dX10_asks_3 : decode cX10_asks 3 = .ok (.invokevirtual 278, 3) := by decide +kernel
theorem dX10_asks_6 : decode cX10_asks 6 = .ok (.ifCond .ne 7, 3) := by decide +kernel
theorem dX10_asks_9 : decode cX10_asks 9 = .ok (.iconst 1, 1) := by decide +kernel
theorem dX10_asks_10 : decode cX10_asks 10 = .ok (.goto 15, 3) := by decide +kernel
theorem dX10_asks_13 : decode cX10_asks 13 = .ok (.iload_n 2, 1) := by decide +kernel
theorem dX10_asks_14 : decode cX10_asks 14 = .ok (.invokestatic 335, 3) := by decide +kernel
theorem dX10_asks_17 : decode cX10_asks 17 = .ok (.ifCond .ne 7, 3) := by decide +kernel
theorem dX10_asks_20 : decode cX10_asks 20 = .ok (.iconst 2, 1) := by decide +kernel
theorem dX10_asks_21 : decode cX10_asks 21 = .ok (.goto 4, 3) := by decide +kernel
theorem dX10_asks_24 : decode cX10_asks 24 = .ok (.iconst 0, 1) := by decide +kernel
theorem dX10_asks_25 : decode cX10_asks 25 = .ok (.putfield 62, 3) := by decide +kernel
theorem dX10_asks_28 : decode cX10_asks 28 = .ok (.aload_n 0, 1) := by decide +kernel
theorem dX10_asks_29 : decode cX10_asks 29 = .ok (.getfield 62, 3) := by decide +kernel
theorem dX10_asks_32 : decode cX10_asks 32 = .ok (.ifCond .ne 7, 3) := by decide +kernel
theorem dX10_asks_35 : decode cX10_asks 35 = .ok (.iconst 1, 1) := by decide +kernel
theorem dX10_asks_36 : decode cX10_asks 36 = .ok (.goto 4, 3) := by decide +kernel
theorem dX10_asks_39 : decode cX10_asks 39 = .ok (.iconst 0, 1) := by decide +kernel
theorem dX10_asks_40 : decode cX10_asks 40 = .ok (.ireturn, 1) := by decide +kernel
theorem dX10_reach_0 : decode cX10_reach 0 = .ok (.aload_n 0, 1) := by decide +kernel
theorem dX10_reach_1 : decode cX10_reach 1 = .ok (.iload_n 1, 1) := by decide +kernel
theorem dX10_reach_2 : decode cX10_reach 2 = .ok (.iload_n 2, 1) := by decide +kernel
theorem dX10_reach_3 : decode cX10_reach 3 = .ok (.invokevirtual 341, 3) := by decide +kernel
theorem dX10_reach_6 : decode cX10_reach 6 = .ok (.ifCond .eq 12, 3) := by decide +kernel
theorem dX10_reach_9 : decode cX10_reach 9 = .ok (.aload_n 0, 1) := by decide +kernel
theorem dX10_reach_10 : decode cX10_reach 10 = .ok (.iload_n 1, 1) := by decide +kernel
theorem dX10_reach_11 : decode cX10_reach 11 = .ok (.iload_n 2, 1) := by decide +kernel
theorem dX10_reach_12 : decode cX10_reach 12 = .ok (.invokevirtual 106, 3) := by decide +kernel
theorem dX10_reach_15 : decode cX10_reach 15 = .ok (.goto 4, 3) := by decide +kernel
theorem dX10_reach_18 : decode cX10_reach 18 = .ok (.iconst 0, 1) := by decide +kernel
theorem dX10_reach_19 : decode cX10_reach 19 = .ok (.ireturn, 1) := by decide +kernel
theorem dX10_endX_0 : decode cX10_endX 0 = .ok (.aload_n 0, 1) := by decide +kernel
theorem dX10_endX_1 : decode cX10_endX 1 = .ok (.iload_n 1, 1) := by decide +kernel
theorem dX10_endX_2 : decode cX10_endX 2 = .ok (.iload_n 2, 1) := by decide +kernel
theorem dX10_endX_3 : decode cX10_endX 3 = .ok (.invokevirtual 341, 3) := by decide +kernel
theorem dX10_endX_6 : decode cX10_endX 6 = .ok (.ifCond .eq 12, 3) := by decide +kernel
theorem dX10_endX_9 : decode cX10_endX 9 = .ok (.aload_n 0, 1) := by decide +kernel
theorem dX10_endX_10 : decode cX10_endX 10 = .ok (.iload_n 1, 1) := by decide +kernel
theorem dX10_endX_11 : decode cX10_endX 11 = .ok (.iload_n 2, 1) := by decide +kernel
theorem dX10_endX_12 : decode cX10_endX 12 = .ok (.invokevirtual 121, 3) := by decide +kernel
theorem dX10_endX_15 : decode cX10_endX 15 = .ok (.goto 4, 3) := by decide +kernel
theorem dX10_endX_18 : decode cX10_endX 18 = .ok (.iconst 0, 1) := by decide +kernel
theorem dX10_endX_19 : decode cX10_endX 19 = .ok (.ireturn, 1) := by decide +kernel
theorem dX10_endY_0 : decode cX10_endY 0 = .ok (.aload_n 0, 1) := by decide +kernel
theorem dX10_endY_1 : decode cX10_endY 1 = .ok (.iload_n 1, 1) := by decide +kernel
theorem dX10_endY_2 : decode cX10_endY 2 = .ok (.iload_n 2, 1) := by decide +kernel
theorem dX10_endY_3 : decode cX10_endY 3 = .ok (.invokevirtual 341, 3) := by decide +kernel
theorem dX10_endY_6 : decode cX10_endY 6 = .ok (.ifCond .eq 12, 3) := by decide +kernel
theorem dX10_endY_9 : decode cX10_endY 9 = .ok (.aload_n 0, 1) := by decide +kernel
theorem dX10_endY_10 : decode cX10_endY 10 = .ok (.iload_n 1, 1) := by decide +kernel
theorem dX10_endY_11 : decode cX10_endY 11 = .ok (.iload_n 2, 1) := by decide +kernel
theorem dX10_endY_12 : decode cX10_endY 12 = .ok (.invokevirtual 124, 3) := by decide +kernel
theorem dX10_endY_15 : decode cX10_endY 15 = .ok (.goto 4, 3) := by decide +kernel
theorem dX10_endY_18 : decode cX10_endY 18 = .ok (.iconst 0, 1) := by decide +kernel
theorem dX10_endY_19 : decode cX10_endY 19 = .ok (.ireturn, 1) := by decide +kernel
theorem dX10_canFly_0 : decode cX10_canFly 0 = .ok (.aload_n 0, 1) := by decide +kernel
theorem dX10_canFly_1 : decode cX10_canFly 1 = .ok (.iload_n 1, 1) := by decide +kernel
theorem dX10_canFly_2 : decode cX10_canFly 2 = .ok (.iload_n 2, 1) := by decide +kernel
theorem dX10_canFly_3 : decode cX10_canFly 3 = .ok (.invokevirtual 341, 3) := by decide +kernel
theorem dX10_canFly_6 : decode cX10_canFly 6 = .ok (.ifCond .eq 16, 3) := by decide +kernel
theorem dX10_canFly_9 : decode cX10_canFly 9 = .ok (.aload_n 0, 1) := by decide +kernel
theorem dX10_canFly_10 : decode cX10_canFly 10 = .ok (.iload_n 1, 1) := by decide +kernel
theorem dX10_canFly_11 : decode cX10_canFly 11 = .ok (.iload_n 2, 1) := by decide +kernel
theorem dX10_canFly_12 : decode cX10_canFly 12 = .ok (.invokevirtual 150, 3) := by decide +kernel
theorem dX10_canFly_15 : decode cX10_canFly 15 = .ok (.ifCond .eq 7, 3) := by decide +kernel
theorem dX10_canFly_18 : decode cX10_canFly 18 = .ok (.iconst 1, 1) := by decide +kernel
theorem dX10_canFly_19 : decode cX10_canFly 19 = .ok (.goto 4, 3) := by decide +kernel
theorem dX10_canFly_22 : decode cX10_canFly 22 = .ok (.iconst 0, 1) := by decide +kernel
theorem dX10_canFly_23 : decode cX10_canFly 23 = .ok (.ireturn, 1) := by decide +kernel
theorem dX10_doCross_0 : decode cX10_doCross 0 = .ok (.aload_n 0, 1) := by decide +kernel
theorem dX10_doCross_1 : decode cX10_doCross 1 = .ok (.iconst 0, 1) := by decide +kernel
theorem dX10_doCross_2 : decode cX10_doCross 2 = .ok (.putfield 62, 3) := by decide +kernel
theorem dX10_doCross_5 : decode cX10_doCross 5 = .ok (.aload_n 0, 1) := by decide +kernel
theorem dX10_doCross_6 : decode cX10_doCross 6 = .ok (.iload_n 1, 1) := by decide +kernel
theorem dX10_doCross_7 : decode cX10_doCross 7 = .ok (.invokevirtual 278, 3) := by decide +kernel
theorem dX10_doCross_10 : decode cX10_doCross 10 = .ok (.ifCond .eq 11, 3) := by decide +kernel
theorem dX10_doCross_13 : decode cX10_doCross 13 = .ok (.aload_n 0, 1) := by decide +kernel
theorem dX10_doCross_14 : decode cX10_doCross 14 = .ok (.iload_n 2, 1) := by decide +kernel
theorem dX10_doCross_15 : decode cX10_doCross 15 = .ok (.invokevirtual 278, 3) := by decide +kernel
theorem dX10_doCross_18 : decode cX10_doCross 18 = .ok (.ifCond .ne 9, 3) := by decide +kernel
theorem dX10_doCross_21 : decode cX10_doCross 21 = .ok (.aload_n 0, 1) := by decide +kernel
theorem dX10_doCross_22 : decode cX10_doCross 22 = .ok (.iconst 1, 1) := by decide +kernel
theorem dX10_doCross_23 : decode cX10_doCross 23 = .ok (.invokevirtual 344, 3) := by decide +kernel
theorem dX10_doCross_26 : decode cX10_doCross 26 = .ok (.ireturn, 1) := by decide +kernel
theorem dX10_doCross_27 : decode cX10_doCross 27 = .ok (.iload_n 1, 1) := by decide +kernel
theorem dX10_doCross_28 : decode cX10_doCross 28 = .ok (.iload_n 2, 1) := by decide +kernel
theorem dX10_doCross_29 : decode cX10_doCross 29 = .ok (.if_icmp .eq 10, 3) := by decide +kernel
theorem dX10_doCross_32 : decode cX10_doCross 32 = .ok (.iload_n 3, 1) := by decide +kernel
theorem dX10_doCross_33 : decode cX10_doCross 33 = .ok (.invokestatic 335, 3) := by decide +kernel
theorem dX10_doCross_36 : decode cX10_doCross 36 = .ok (.ifCond .ne 9, 3) := by decide +kernel
theorem dX10_doCross_39 : decode cX10_doCross 39 = .ok (.aload_n 0, 1) := by decide +kernel
theorem dX10_doCross_40 : decode cX10_doCross 40 = .ok (.iconst 2, 1) := by decide +kernel
theorem dX10_doCross_41 : decode cX10_doCross 41 = .ok (.invokevirtual 344, 3) := by decide +kernel
theorem dX10_doCross_44 : decode cX10_doCross 44 = .ok (.ireturn, 1) := by decide +kernel
theorem dX10_doCross_45 : decode cX10_doCross 45 = .ok (.aload_n 0, 1) := by decide +kernel
theorem dX10_doCross_46 : decode cX10_doCross 46 = .ok (.iload_n 1, 1) := by decide +kernel
theorem dX10_doCross_47 : decode cX10_doCross 47 = .ok (.iload_n 2, 1) := by decide +kernel
theorem dX10_doCross_48 : decode cX10_doCross 48 = .ok (.iload_n 3, 1) := by decide +kernel
theorem dX10_doCross_49 : decode cX10_doCross 49 = .ok (.invokevirtual 141, 3) := by decide +kernel
theorem dX10_doCross_52 : decode cX10_doCross 52 = .ok (.ireturn, 1) := by decide +kernel
theorem dX10_permitCount_0 : decode cX10_permitCount 0 = .ok (.aload_n 0, 1) := by decide +kernel
theorem dX10_permitCount_1 : decode cX10_permitCount 1 = .ok (.iconst 0, 1) := by decide +kernel
theorem dX10_permitCount_2 : decode cX10_permitCount 2 = .ok (.putfield 62, 3) := by decide +kernel
theorem dX10_permitCount_5 : decode cX10_permitCount 5 = .ok (.aload_n 0, 1) := by decide +kernel
theorem dX10_permitCount_6 : decode cX10_permitCount 6 = .ok (.getfield 7, 3) := by decide +kernel
theorem dX10_permitCount_9 : decode cX10_permitCount 9 = .ok (.bipush 11, 2) := by decide +kernel
theorem dX10_permitCount_11 : decode cX10_permitCount 11 = .ok (.iaload, 1) := by decide +kernel
theorem dX10_permitCount_12 : decode cX10_permitCount 12 = .ok (.ireturn, 1) := by decide +kernel
theorem dX10_permitKite_0 : decode cX10_permitKite 0 = .ok (.aload_n 0, 1) := by decide +kernel
theorem dX10_permitKite_1 : decode cX10_permitKite 1 = .ok (.iconst 0, 1) := by decide +kernel
theorem dX10_permitKite_2 : decode cX10_permitKite 2 = .ok (.putfield 62, 3) := by decide +kernel
theorem dX10_permitKite_5 : decode cX10_permitKite 5 = .ok (.aload_n 0, 1) := by decide +kernel
theorem dX10_permitKite_6 : decode cX10_permitKite 6 = .ok (.iload_n 1, 1) := by decide +kernel
theorem dX10_permitKite_7 : decode cX10_permitKite 7 = .ok (.invokevirtual 347, 3) := by decide +kernel
theorem dX10_permitKite_10 : decode cX10_permitKite 10 = .ok (.ifCond .eq 18, 3) := by decide +kernel
theorem dX10_permitKite_13 : decode cX10_permitKite 13 = .ok (.aload_n 0, 1) := by decide +kernel
theorem dX10_permitKite_14 : decode cX10_permitKite 14 = .ok (.getfield 7, 3) := by decide +kernel
theorem dX10_permitKite_17 : decode cX10_permitKite 17 = .ok (.sipush 214, 3) := by decide +kernel
theorem dX10_permitKite_20 : decode cX10_permitKite 20 = .ok (.iconst 3, 1) := by decide +kernel
theorem dX10_permitKite_21 : decode cX10_permitKite 21 = .ok (.iload_n 1, 1) := by decide +kernel
theorem dX10_permitKite_22 : decode cX10_permitKite 22 = .ok (.imul, 1) := by decide +kernel
theorem dX10_permitKite_23 : decode cX10_permitKite 23 = .ok (.iadd, 1) := by decide +kernel
theorem dX10_permitKite_24 : decode cX10_permitKite 24 = .ok (.iaload, 1) := by decide +kernel
theorem dX10_permitKite_25 : decode cX10_permitKite 25 = .ok (.goto 8, 3) := by decide +kernel
theorem dX10_permitKite_28 : decode cX10_permitKite 28 = .ok (.aload_n 0, 1) := by decide +kernel
theorem dX10_permitKite_29 : decode cX10_permitKite 29 = .ok (.iconst 1, 1) := by decide +kernel
theorem dX10_permitKite_30 : decode cX10_permitKite 30 = .ok (.invokevirtual 308, 3) := by decide +kernel
theorem dX10_permitKite_33 : decode cX10_permitKite 33 = .ok (.ireturn, 1) := by decide +kernel
theorem dX10_permitStart_0 : decode cX10_permitStart 0 = .ok (.aload_n 0, 1) := by decide +kernel
theorem dX10_permitStart_1 : decode cX10_permitStart 1 = .ok (.iconst 0, 1) := by decide +kernel
theorem dX10_permitStart_2 : decode cX10_permitStart 2 = .ok (.putfield 62, 3) := by decide +kernel
theorem dX10_permitStart_5 : decode cX10_permitStart 5 = .ok (.aload_n 0, 1) := by decide +kernel
theorem dX10_permitStart_6 : decode cX10_permitStart 6 = .ok (.iload_n 1, 1) := by decide +kernel
theorem dX10_permitStart_7 : decode cX10_permitStart 7 = .ok (.invokevirtual 347, 3) := by decide +kernel
theorem dX10_permitStart_10 : decode cX10_permitStart 10 = .ok (.ifCond .eq 20, 3) := by decide +kernel
theorem dX10_permitStart_13 : decode cX10_permitStart 13 = .ok (.aload_n 0, 1) := by decide +kernel
theorem dX10_permitStart_14 : decode cX10_permitStart 14 = .ok (.getfield 7, 3) := by decide +kernel
theorem dX10_permitStart_17 : decode cX10_permitStart 17 = .ok (.sipush 214, 3) := by decide +kernel
theorem dX10_permitStart_20 : decode cX10_permitStart 20 = .ok (.iconst 3, 1) := by decide +kernel
theorem dX10_permitStart_21 : decode cX10_permitStart 21 = .ok (.iload_n 1, 1) := by decide +kernel
theorem dX10_permitStart_22 : decode cX10_permitStart 22 = .ok (.imul, 1) := by decide +kernel
theorem dX10_permitStart_23 : decode cX10_permitStart 23 = .ok (.iadd, 1) := by decide +kernel
theorem dX10_permitStart_24 : decode cX10_permitStart 24 = .ok (.iconst 1, 1) := by decide +kernel
theorem dX10_permitStart_25 : decode cX10_permitStart 25 = .ok (.iadd, 1) := by decide +kernel
theorem dX10_permitStart_26 : decode cX10_permitStart 26 = .ok (.iaload, 1) := by decide +kernel
theorem dX10_permitStart_27 : decode cX10_permitStart 27 = .ok (.goto 8, 3) := by decide +kernel
theorem dX10_permitStart_30 : decode cX10_permitStart 30 = .ok (.aload_n 0, 1) := by decide +kernel
theorem dX10_permitStart_31 : decode cX10_permitStart 31 = .ok (.iconst 1, 1) := by decide +kernel
theorem dX10_permitStart_32 : decode cX10_permitStart 32 = .ok (.invokevirtual 308, 3) := by decide +kernel
theorem dX10_permitStart_35 : decode cX10_permitStart 35 = .ok (.ireturn, 1) := by decide +kernel
theorem dX10_permitDuration_0 : decode cX10_permitDuration 0 = .ok (.aload_n 0, 1) := by decide +kernel
theorem dX10_permitDuration_1 : decode cX10_permitDuration 1 = .ok (.iconst 0, 1) := by decide +kernel
theorem dX10_permitDuration_2 : decode cX10_permitDuration 2 = .ok (.putfield 62, 3) := by decide +kernel
theorem dX10_permitDuration_5 : decode cX10_permitDuration 5 = .ok (.aload_n 0, 1) := by decide +kernel
theorem dX10_permitDuration_6 : decode cX10_permitDuration 6 = .ok (.iload_n 1, 1) := by decide +kernel
theorem dX10_permitDuration_7 : decode cX10_permitDuration 7 = .ok (.invokevirtual 347, 3) := by decide +kernel
theorem dX10_permitDuration_10 : decode cX10_permitDuration 10 = .ok (.ifCond .eq 20, 3) := by decide +kernel
theorem dX10_permitDuration_13 : decode cX10_permitDuration 13 = .ok (.aload_n 0, 1) := by decide +kernel
theorem dX10_permitDuration_14 : decode cX10_permitDuration 14 = .ok (.getfield 7, 3) := by decide +kernel
theorem dX10_permitDuration_17 : decode cX10_permitDuration 17 = .ok (.sipush 214, 3) := by decide +kernel
theorem dX10_permitDuration_20 : decode cX10_permitDuration 20 = .ok (.iconst 3, 1) := by decide +kernel
theorem dX10_permitDuration_21 : decode cX10_permitDuration 21 = .ok (.iload_n 1, 1) := by decide +kernel
theorem dX10_permitDuration_22 : decode cX10_permitDuration 22 = .ok (.imul, 1) := by decide +kernel
theorem dX10_permitDuration_23 : decode cX10_permitDuration 23 = .ok (.iadd, 1) := by decide +kernel
theorem dX10_permitDuration_24 : decode cX10_permitDuration 24 = .ok (.iconst 2, 1) := by decide +kernel
theorem dX10_permitDuration_25 : decode cX10_permitDuration 25 = .ok (.iadd, 1) := by decide +kernel
theorem dX10_permitDuration_26 : decode cX10_permitDuration 26 = .ok (.iaload, 1) := by decide +kernel
theorem dX10_permitDuration_27 : decode cX10_permitDuration 27 = .ok (.goto 8, 3) := by decide +kernel
theorem dX10_permitDuration_30 : decode cX10_permitDuration 30 = .ok (.aload_n 0, 1) := by decide +kernel
theorem dX10_permitDuration_31 : decode cX10_permitDuration 31 = .ok (.iconst 1, 1) := by decide +kernel
theorem dX10_permitDuration_32 : decode cX10_permitDuration 32 = .ok (.invokevirtual 308, 3) := by decide +kernel
theorem dX10_permitDuration_35 : decode cX10_permitDuration 35 = .ok (.ireturn, 1) := by decide +kernel
theorem dX10_hasPermit_0 : decode cX10_hasPermit 0 = .ok (.aload_n 0, 1) := by decide +kernel
theorem dX10_hasPermit_1 : decode cX10_hasPermit 1 = .ok (.iload_n 1, 1) := by decide +kernel
theorem dX10_hasPermit_2 : decode cX10_hasPermit 2 = .ok (.iload_n 2, 1) := by decide +kernel
theorem dX10_hasPermit_3 : decode cX10_hasPermit 3 = .ok (.invokevirtual 341, 3) := by decide +kernel
theorem dX10_hasPermit_6 : decode cX10_hasPermit 6 = .ok (.ifCond .eq 16, 3) := by decide +kernel
theorem dX10_hasPermit_9 : decode cX10_hasPermit 9 = .ok (.aload_n 0, 1) := by decide +kernel
theorem dX10_hasPermit_10 : decode cX10_hasPermit 10 = .ok (.iload_n 1, 1) := by decide +kernel
theorem dX10_hasPermit_11 : decode cX10_hasPermit 11 = .ok (.iload_n 2, 1) := by decide +kernel
theorem dX10_hasPermit_12 : decode cX10_hasPermit 12 = .ok (.invokevirtual 138, 3) := by decide +kernel
theorem dX10_hasPermit_15 : decode cX10_hasPermit 15 = .ok (.ifCond .eq 7, 3) := by decide +kernel
theorem dX10_hasPermit_18 : decode cX10_hasPermit 18 = .ok (.iconst 1, 1) := by decide +kernel
theorem dX10_hasPermit_19 : decode cX10_hasPermit 19 = .ok (.goto 4, 3) := by decide +kernel
theorem dX10_hasPermit_22 : decode cX10_hasPermit 22 = .ok (.iconst 0, 1) := by decide +kernel
theorem dX10_hasPermit_23 : decode cX10_hasPermit 23 = .ok (.ireturn, 1) := by decide +kernel
theorem dX10_whyNotPermit_0 : decode cX10_whyNotPermit 0 = .ok (.aload_n 0, 1) := by decide +kernel
theorem dX10_whyNotPermit_1 : decode cX10_whyNotPermit 1 = .ok (.iconst 0, 1) := by decide +kernel
theorem dX10_whyNotPermit_2 : decode cX10_whyNotPermit 2 = .ok (.putfield 62, 3) := by decide +kernel
theorem dX10_whyNotPermit_5 : decode cX10_whyNotPermit 5 = .ok (.aload_n 0, 1) := by decide +kernel
theorem dX10_whyNotPermit_6 : decode cX10_whyNotPermit 6 = .ok (.iload_n 1, 1) := by decide +kernel
theorem dX10_whyNotPermit_7 : decode cX10_whyNotPermit 7 = .ok (.invokevirtual 278, 3) := by decide +kernel
theorem dX10_whyNotPermit_10 : decode cX10_whyNotPermit 10 = .ok (.ifCond .ne 9, 3) := by decide +kernel
theorem dX10_whyNotPermit_13 : decode cX10_whyNotPermit 13 = .ok (.aload_n 0, 1) := by decide +kernel
theorem dX10_whyNotPermit_14 : decode cX10_whyNotPermit 14 = .ok (.iconst 1, 1) := by decide +kernel
theorem dX10_whyNotPermit_15 : decode cX10_whyNotPermit 15 = .ok (.invokevirtual 308, 3) := by decide +kernel
theorem dX10_whyNotPermit_18 : decode cX10_whyNotPermit 18 = .ok (.ireturn, 1) := by decide +kernel
theorem dX10_whyNotPermit_19 : decode cX10_whyNotPermit 19 = .ok (.iload_n 2, 1) := by decide +kernel
theorem dX10_whyNotPermit_20 : decode cX10_whyNotPermit 20 = .ok (.invokestatic 335, 3) := by decide +kernel
theorem dX10_whyNotPermit_23 : decode cX10_whyNotPermit 23 = .ok (.ifCond .eq 23, 3) := by decide +kernel
theorem dX10_whyNotPermit_26 : decode cX10_whyNotPermit 26 = .ok (.iload_n 3, 1) := by decide +kernel
theorem dX10_whyNotPermit_27 : decode cX10_whyNotPermit 27 = .ok (.iconst 1, 1) := by decide +kernel
theorem dX10_whyNotPermit_28 : decode cX10_whyNotPermit 28 = .ok (.bipush 24, 2) := by decide +kernel
theorem dX10_whyNotPermit_30 : decode cX10_whyNotPermit 30 = .ok (.invokestatic 75, 3) := by decide +kernel
theorem dX10_whyNotPermit_33 : decode cX10_whyNotPermit 33 = .ok (.ifCond .eq 13, 3) := by decide +kernel
theorem dX10_whyNotPermit_36 : decode cX10_whyNotPermit 36 = .ok (.aload_n 0, 1) := by decide +kernel
theorem dX10_whyNotPermit_37 : decode cX10_whyNotPermit 37 = .ok (.iload_n 1, 1) := by decide +kernel
theorem dX10_whyNotPermit_38 : decode cX10_whyNotPermit 38 = .ok (.iload_n 2, 1) := by decide +kernel
theorem dX10_whyNotPermit_39 : decode cX10_whyNotPermit 39 = .ok (.iload_n 3, 1) := by decide +kernel
theorem dX10_whyNotPermit_40 : decode cX10_whyNotPermit 40 = .ok (.invokevirtual 290, 3) := by decide +kernel
theorem dX10_whyNotPermit_43 : decode cX10_whyNotPermit 43 = .ok (.goto 8, 3) := by decide +kernel
theorem dX10_whyNotPermit_46 : decode cX10_whyNotPermit 46 = .ok (.aload_n 0, 1) := by decide +kernel
theorem dX10_whyNotPermit_47 : decode cX10_whyNotPermit 47 = .ok (.iconst 2, 1) := by decide +kernel
theorem dX10_whyNotPermit_48 : decode cX10_whyNotPermit 48 = .ok (.invokevirtual 308, 3) := by decide +kernel
theorem dX10_whyNotPermit_51 : decode cX10_whyNotPermit 51 = .ok (.ireturn, 1) := by decide +kernel
theorem dX10_kiteInTheWay_0 : decode cX10_kiteInTheWay 0 = .ok (.aload_n 0, 1) := by decide +kernel
theorem dX10_kiteInTheWay_1 : decode cX10_kiteInTheWay 1 = .ok (.iconst 0, 1) := by decide +kernel
theorem dX10_kiteInTheWay_2 : decode cX10_kiteInTheWay 2 = .ok (.putfield 62, 3) := by decide +kernel
theorem dX10_kiteInTheWay_5 : decode cX10_kiteInTheWay 5 = .ok (.aload_n 0, 1) := by decide +kernel
theorem dX10_kiteInTheWay_6 : decode cX10_kiteInTheWay 6 = .ok (.iload_n 1, 1) := by decide +kernel
theorem dX10_kiteInTheWay_7 : decode cX10_kiteInTheWay 7 = .ok (.invokevirtual 278, 3) := by decide +kernel
theorem dX10_kiteInTheWay_10 : decode cX10_kiteInTheWay 10 = .ok (.ifCond .ne 9, 3) := by decide +kernel
theorem dX10_kiteInTheWay_13 : decode cX10_kiteInTheWay 13 = .ok (.aload_n 0, 1) := by decide +kernel
theorem dX10_kiteInTheWay_14 : decode cX10_kiteInTheWay 14 = .ok (.iconst 1, 1) := by decide +kernel
theorem dX10_kiteInTheWay_15 : decode cX10_kiteInTheWay 15 = .ok (.invokevirtual 308, 3) := by decide +kernel
theorem dX10_kiteInTheWay_18 : decode cX10_kiteInTheWay 18 = .ok (.ireturn, 1) := by decide +kernel
theorem dX10_kiteInTheWay_19 : decode cX10_kiteInTheWay 19 = .ok (.iload_n 2, 1) := by decide +kernel
theorem dX10_kiteInTheWay_20 : decode cX10_kiteInTheWay 20 = .ok (.invokestatic 335, 3) := by decide +kernel
theorem dX10_kiteInTheWay_23 : decode cX10_kiteInTheWay 23 = .ok (.ifCond .eq 23, 3) := by decide +kernel
theorem dX10_kiteInTheWay_26 : decode cX10_kiteInTheWay 26 = .ok (.iload_n 3, 1) := by decide +kernel
theorem dX10_kiteInTheWay_27 : decode cX10_kiteInTheWay 27 = .ok (.iconst 1, 1) := by decide +kernel
theorem dX10_kiteInTheWay_28 : decode cX10_kiteInTheWay 28 = .ok (.bipush 24, 2) := by decide +kernel
theorem dX10_kiteInTheWay_30 : decode cX10_kiteInTheWay 30 = .ok (.invokestatic 75, 3) := by decide +kernel
theorem dX10_kiteInTheWay_33 : decode cX10_kiteInTheWay 33 = .ok (.ifCond .eq 13, 3) := by decide +kernel
theorem dX10_kiteInTheWay_36 : decode cX10_kiteInTheWay 36 = .ok (.aload_n 0, 1) := by decide +kernel
theorem dX10_kiteInTheWay_37 : decode cX10_kiteInTheWay 37 = .ok (.iload_n 1, 1) := by decide +kernel
theorem dX10_kiteInTheWay_38 : decode cX10_kiteInTheWay 38 = .ok (.iload_n 2, 1) := by decide +kernel
theorem dX10_kiteInTheWay_39 : decode cX10_kiteInTheWay 39 = .ok (.iload_n 3, 1) := by decide +kernel
theorem dX10_kiteInTheWay_40 : decode cX10_kiteInTheWay 40 = .ok (.invokevirtual 153, 3) := by decide +kernel
theorem dX10_kiteInTheWay_43 : decode cX10_kiteInTheWay 43 = .ok (.goto 8, 3) := by decide +kernel
theorem dX10_kiteInTheWay_46 : decode cX10_kiteInTheWay 46 = .ok (.aload_n 0, 1) := by decide +kernel
theorem dX10_kiteInTheWay_47 : decode cX10_kiteInTheWay 47 = .ok (.iconst 2, 1) := by decide +kernel
theorem dX10_kiteInTheWay_48 : decode cX10_kiteInTheWay 48 = .ok (.invokevirtual 308, 3) := by decide +kernel
theorem dX10_kiteInTheWay_51 : decode cX10_kiteInTheWay 51 = .ok (.ireturn, 1) := by decide +kernel
theorem dX10_earliestStart_0 : decode cX10_earliestStart 0 = .ok (.aload_n 0, 1) := by decide +kernel
theorem dX10_earliestStart_1 : decode cX10_earliestStart 1 = .ok (.iconst 0, 1) := by decide +kernel
theorem dX10_earliestStart_2 : decode cX10_earliestStart 2 = .ok (.putfield 62, 3) := by decide +kernel
theorem dX10_earliestStart_5 : decode cX10_earliestStart 5 = .ok (.aload_n 0, 1) := by decide +kernel
theorem dX10_earliestStart_6 : decode cX10_earliestStart 6 = .ok (.iload_n 1, 1) := by decide +kernel
theorem dX10_earliestStart_7 : decode cX10_earliestStart 7 = .ok (.invokevirtual 278, 3) := by decide +kernel
theorem dX10_earliestStart_10 : decode cX10_earliestStart 10 = .ok (.ifCond .ne 9, 3) := by decide +kernel
theorem dX10_earliestStart_13 : decode cX10_earliestStart 13 = .ok (.aload_n 0, 1) := by decide +kernel
theorem dX10_earliestStart_14 : decode cX10_earliestStart 14 = .ok (.iconst 1, 1) := by decide +kernel
theorem dX10_earliestStart_15 : decode cX10_earliestStart 15 = .ok (.invokevirtual 308, 3) := by decide +kernel
theorem dX10_earliestStart_18 : decode cX10_earliestStart 18 = .ok (.ireturn, 1) := by decide +kernel
theorem dX10_earliestStart_19 : decode cX10_earliestStart 19 = .ok (.iload_n 2, 1) := by decide +kernel
theorem dX10_earliestStart_20 : decode cX10_earliestStart 20 = .ok (.iconst 1, 1) := by decide +kernel
theorem dX10_earliestStart_21 : decode cX10_earliestStart 21 = .ok (.bipush 24, 2) := by decide +kernel
theorem dX10_earliestStart_23 : decode cX10_earliestStart 23 = .ok (.invokestatic 75, 3) := by decide +kernel
theorem dX10_earliestStart_26 : decode cX10_earliestStart 26 = .ok (.ifCond .ne 9, 3) := by decide +kernel
theorem dX10_earliestStart_29 : decode cX10_earliestStart 29 = .ok (.aload_n 0, 1) := by decide +kernel
theorem dX10_earliestStart_30 : decode cX10_earliestStart 30 = .ok (.iconst 2, 1) := by decide +kernel
theorem dX10_earliestStart_31 : decode cX10_earliestStart 31 = .ok (.invokevirtual 308, 3) := by decide +kernel
theorem dX10_earliestStart_34 : decode cX10_earliestStart 34 = .ok (.ireturn, 1) := by decide +kernel
theorem dX10_earliestStart_35 : decode cX10_earliestStart 35 = .ok (.iconst 0, 1) := by decide +kernel
theorem dX10_earliestStart_36 : decode cX10_earliestStart 36 = .ok (.istore_n 3, 1) := by decide +kernel
theorem dX10_earliestStart_37 : decode cX10_earliestStart 37 = .ok (.iload_n 3, 1) := by decide +kernel
theorem dX10_earliestStart_38 : decode cX10_earliestStart 38 = .ok (.bipush 60, 2) := by decide +kernel
theorem dX10_earliestStart_40 : decode cX10_earliestStart 40 = .ok (.if_icmp .gt 37, 3) := by decide +kernel
theorem dX10_earliestStart_43 : decode cX10_earliestStart 43 = .ok (.aload_n 0, 1) := by decide +kernel
theorem dX10_earliestStart_44 : decode cX10_earliestStart 44 = .ok (.iload_n 1, 1) := by decide +kernel
theorem dX10_earliestStart_45 : decode cX10_earliestStart 45 = .ok (.aload_n 0, 1) := by decide +kernel
theorem dX10_earliestStart_46 : decode cX10_earliestStart 46 = .ok (.getfield 7, 3) := by decide +kernel
theorem dX10_earliestStart_49 : decode cX10_earliestStart 49 = .ok (.bipush 7, 2) := by decide +kernel
theorem dX10_earliestStart_51 : decode cX10_earliestStart 51 = .ok (.iaload, 1) := by decide +kernel
theorem dX10_earliestStart_52 : decode cX10_earliestStart 52 = .ok (.iload_n 3, 1) := by decide +kernel
theorem dX10_earliestStart_53 : decode cX10_earliestStart 53 = .ok (.iadd, 1) := by decide +kernel
theorem dX10_earliestStart_54 : decode cX10_earliestStart 54 = .ok (.iload_n 2, 1) := by decide +kernel
theorem dX10_earliestStart_55 : decode cX10_earliestStart 55 = .ok (.invokevirtual 290, 3) := by decide +kernel
theorem dX10_earliestStart_58 : decode cX10_earliestStart 58 = .ok (.ifCond .ne 13, 3) := by decide +kernel
theorem dX10_earliestStart_61 : decode cX10_earliestStart 61 = .ok (.aload_n 0, 1) := by decide +kernel
theorem dX10_earliestStart_62 : decode cX10_earliestStart 62 = .ok (.getfield 7, 3) := by decide +kernel
theorem dX10_earliestStart_65 : decode cX10_earliestStart 65 = .ok (.bipush 7, 2) := by decide +kernel
theorem dX10_earliestStart_67 : decode cX10_earliestStart 67 = .ok (.iaload, 1) := by decide +kernel
theorem dX10_earliestStart_68 : decode cX10_earliestStart 68 = .ok (.iload_n 3, 1) := by decide +kernel
theorem dX10_earliestStart_69 : decode cX10_earliestStart 69 = .ok (.iadd, 1) := by decide +kernel
theorem dX10_earliestStart_70 : decode cX10_earliestStart 70 = .ok (.ireturn, 1) := by decide +kernel
theorem dX10_earliestStart_71 : decode cX10_earliestStart 71 = .ok (.iinc 3 1, 3) := by decide +kernel
theorem dX10_earliestStart_74 : decode cX10_earliestStart 74 = .ok (.goto (-37), 3) := by decide +kernel
theorem dX10_earliestStart_77 : decode cX10_earliestStart 77 = .ok (.iconst (-1), 1) := by decide +kernel
theorem dX10_earliestStart_78 : decode cX10_earliestStart 78 = .ok (.ireturn, 1) := by decide +kernel
theorem dX10_bestKnots_0 : decode cX10_bestKnots 0 = .ok (.aload_n 0, 1) := by decide +kernel
theorem dX10_bestKnots_1 : decode cX10_bestKnots 1 = .ok (.iload_n 1, 1) := by decide +kernel
theorem dX10_bestKnots_2 : decode cX10_bestKnots 2 = .ok (.iload_n 2, 1) := by decide +kernel
theorem dX10_bestKnots_3 : decode cX10_bestKnots 3 = .ok (.invokevirtual 341, 3) := by decide +kernel
theorem dX10_bestKnots_6 : decode cX10_bestKnots 6 = .ok (.ifCond .ne 5, 3) := by decide +kernel
theorem dX10_bestKnots_9 : decode cX10_bestKnots 9 = .ok (.iconst 0, 1) := by decide +kernel
theorem dX10_bestKnots_10 : decode cX10_bestKnots 10 = .ok (.ireturn, 1) := by decide +kernel
theorem dX10_bestKnots_11 : decode cX10_bestKnots 11 = .ok (.iconst (-1), 1) := by decide +kernel
theorem dX10_bestKnots_12 : decode cX10_bestKnots 12 = .ok (.istore_n 3, 1) := by decide +kernel
theorem dX10_bestKnots_13 : decode cX10_bestKnots 13 = .ok (.iconst 0, 1) := by decide +kernel
theorem dX10_bestKnots_14 : decode cX10_bestKnots 14 = .ok (.istore 4, 2) := by decide +kernel
theorem dX10_bestKnots_16 : decode cX10_bestKnots 16 = .ok (.iload 4, 2) := by decide +kernel
theorem dX10_bestKnots_18 : decode cX10_bestKnots 18 = .ok (.bipush 10, 2) := by decide +kernel
theorem dX10_bestKnots_20 : decode cX10_bestKnots 20 = .ok (.if_icmp .ge 45, 3) := by decide +kernel
theorem dX10_bestKnots_23 : decode cX10_bestKnots 23 = .ok (.aload_n 0, 1) := by decide +kernel
theorem dX10_bestKnots_24 : decode cX10_bestKnots 24 = .ok (.iload_n 1, 1) := by decide +kernel
theorem dX10_bestKnots_25 : decode cX10_bestKnots 25 = .ok (.iload 4, 2) := by decide +kernel
theorem dX10_bestKnots_27 : decode cX10_bestKnots 27 = .ok (.iload_n 2, 1) := by decide +kernel
theorem dX10_bestKnots_28 : decode cX10_bestKnots 28 = .ok (.invokevirtual 115, 3) := by decide +kernel
theorem dX10_bestKnots_31 : decode cX10_bestKnots 31 = .ok (.ifCond .eq 28, 3) := by decide +kernel
theorem dX10_bestKnots_34 : decode cX10_bestKnots 34 = .ok (.iload_n 3, 1) := by decide +kernel
theorem dX10_bestKnots_35 : decode cX10_bestKnots 35 = .ok (.ifCond .lt 21, 3) := by decide +kernel
theorem dX10_bestKnots_38 : decode cX10_bestKnots 38 = .ok (.aload_n 0, 1) := by decide +kernel
theorem dX10_bestKnots_39 : decode cX10_bestKnots 39 = .ok (.iload_n 1, 1) := by decide +kernel
theorem dX10_bestKnots_40 : decode cX10_bestKnots 40 = .ok (.iload 4, 2) := by decide +kernel
theorem dX10_bestKnots_42 : decode cX10_bestKnots 42 = .ok (.iload_n 2, 1) := by decide +kernel
theorem dX10_bestKnots_43 : decode cX10_bestKnots 43 = .ok (.invokevirtual 93, 3) := by decide +kernel
theorem dX10_bestKnots_46 : decode cX10_bestKnots 46 = .ok (.aload_n 0, 1) := by decide +kernel
theorem dX10_bestKnots_47 : decode cX10_bestKnots 47 = .ok (.iload_n 1, 1) := by decide +kernel
theorem dX10_bestKnots_48 : decode cX10_bestKnots 48 = .ok (.iload_n 3, 1) := by decide +kernel
theorem dX10_bestKnots_49 : decode cX10_bestKnots 49 = .ok (.iload_n 2, 1) := by decide +kernel
theorem dX10_bestKnots_50 : decode cX10_bestKnots 50 = .ok (.invokevirtual 93, 3) := by decide +kernel
theorem dX10_bestKnots_53 : decode cX10_bestKnots 53 = .ok (.if_icmp .le 6, 3) := by decide +kernel
theorem dX10_bestKnots_56 : decode cX10_bestKnots 56 = .ok (.iload 4, 2) := by decide +kernel
theorem dX10_bestKnots_58 : decode cX10_bestKnots 58 = .ok (.istore_n 3, 1) := by decide +kernel
theorem dX10_bestKnots_59 : decode cX10_bestKnots 59 = .ok (.iinc 4 1, 3) := by decide +kernel
theorem dX10_bestKnots_62 : decode cX10_bestKnots 62 = .ok (.goto (-46), 3) := by decide +kernel
theorem dX10_bestKnots_65 : decode cX10_bestKnots 65 = .ok (.iload_n 3, 1) := by decide +kernel
theorem dX10_bestKnots_66 : decode cX10_bestKnots 66 = .ok (.ireturn, 1) := by decide +kernel
theorem dX10_guiltyKite_0 : decode cX10_guiltyKite 0 = .ok (.aload_n 0, 1) := by decide +kernel
theorem dX10_guiltyKite_1 : decode cX10_guiltyKite 1 = .ok (.iconst 0, 1) := by decide +kernel
theorem dX10_guiltyKite_2 : decode cX10_guiltyKite 2 = .ok (.putfield 62, 3) := by decide +kernel
theorem dX10_guiltyKite_5 : decode cX10_guiltyKite 5 = .ok (.aload_n 0, 1) := by decide +kernel
theorem dX10_guiltyKite_6 : decode cX10_guiltyKite 6 = .ok (.iload_n 1, 1) := by decide +kernel
theorem dX10_guiltyKite_7 : decode cX10_guiltyKite 7 = .ok (.invokevirtual 278, 3) := by decide +kernel
theorem dX10_guiltyKite_10 : decode cX10_guiltyKite 10 = .ok (.ifCond .eq 11, 3) := by decide +kernel
theorem dX10_guiltyKite_13 : decode cX10_guiltyKite 13 = .ok (.aload_n 0, 1) := by decide +kernel
theorem dX10_guiltyKite_14 : decode cX10_guiltyKite 14 = .ok (.iload_n 2, 1) := by decide +kernel
theorem dX10_guiltyKite_15 : decode cX10_guiltyKite 15 = .ok (.invokevirtual 278, 3) := by decide +kernel
theorem dX10_guiltyKite_18 : decode cX10_guiltyKite 18 = .ok (.ifCond .ne 9, 3) := by decide +kernel
theorem dX10_guiltyKite_21 : decode cX10_guiltyKite 21 = .ok (.aload_n 0, 1) := by decide +kernel
theorem dX10_guiltyKite_22 : decode cX10_guiltyKite 22 = .ok (.iconst 1, 1) := by decide +kernel
theorem dX10_guiltyKite_23 : decode cX10_guiltyKite 23 = .ok (.invokevirtual 308, 3) := by decide +kernel
theorem dX10_guiltyKite_26 : decode cX10_guiltyKite 26 = .ok (.ireturn, 1) := by decide +kernel
theorem dX10_guiltyKite_27 : decode cX10_guiltyKite 27 = .ok (.iload_n 1, 1) := by decide +kernel
theorem dX10_guiltyKite_28 : decode cX10_guiltyKite 28 = .ok (.iload_n 2, 1) := by decide +kernel
theorem dX10_guiltyKite_29 : decode cX10_guiltyKite 29 = .ok (.if_icmp .ne 9, 3) := by decide +kernel
theorem dX10_guiltyKite_32 : decode cX10_guiltyKite 32 = .ok (.aload_n 0, 1) := by decide +kernel
theorem dX10_guiltyKite_33 : decode cX10_guiltyKite 33 = .ok (.iconst 2, 1) := by decide +kernel
theorem dX10_guiltyKite_34 : decode cX10_guiltyKite 34 = .ok (.invokevirtual 308, 3) := by decide +kernel
theorem dX10_guiltyKite_37 : decode cX10_guiltyKite 37 = .ok (.ireturn, 1) := by decide +kernel
theorem dX10_guiltyKite_38 : decode cX10_guiltyKite 38 = .ok (.aload_n 0, 1) := by decide +kernel
theorem dX10_guiltyKite_39 : decode cX10_guiltyKite 39 = .ok (.iload_n 1, 1) := by decide +kernel
theorem dX10_guiltyKite_40 : decode cX10_guiltyKite 40 = .ok (.bipush 6, 2) := by decide +kernel
theorem dX10_guiltyKite_42 : decode cX10_guiltyKite 42 = .ok (.invokevirtual 79, 3) := by decide +kernel
theorem dX10_guiltyKite_45 : decode cX10_guiltyKite 45 = .ok (.iconst 1, 1) := by decide +kernel
theorem dX10_guiltyKite_46 : decode cX10_guiltyKite 46 = .ok (.if_icmp .ne 23, 3) := by decide +kernel
theorem dX10_guiltyKite_49 : decode cX10_guiltyKite 49 = .ok (.aload_n 0, 1) := by decide +kernel
theorem dX10_guiltyKite_50 : decode cX10_guiltyKite 50 = .ok (.iload_n 2, 1) := by decide +kernel
theorem dX10_guiltyKite_51 : decode cX10_guiltyKite 51 = .ok (.bipush 6, 2) := by decide +kernel
theorem dX10_guiltyKite_53 : decode cX10_guiltyKite 53 = .ok (.invokevirtual 79, 3) := by decide +kernel
theorem dX10_guiltyKite_56 : decode cX10_guiltyKite 56 = .ok (.iconst 1, 1) := by decide +kernel
theorem dX10_guiltyKite_57 : decode cX10_guiltyKite 57 = .ok (.if_icmp .ne 12, 3) := by decide +kernel
theorem dX10_guiltyKite_60 : decode cX10_guiltyKite 60 = .ok (.aload_n 0, 1) := by decide +kernel
theorem dX10_guiltyKite_61 : decode cX10_guiltyKite 61 = .ok (.iload_n 1, 1) := by decide +kernel
theorem dX10_guiltyKite_62 : decode cX10_guiltyKite 62 = .ok (.iload_n 2, 1) := by decide +kernel
theorem dX10_guiltyKite_63 : decode cX10_guiltyKite 63 = .ok (.invokevirtual 162, 3) := by decide +kernel
theorem dX10_guiltyKite_66 : decode cX10_guiltyKite 66 = .ok (.goto 8, 3) := by decide +kernel
theorem dX10_guiltyKite_69 : decode cX10_guiltyKite 69 = .ok (.aload_n 0, 1) := by decide +kernel
theorem dX10_guiltyKite_70 : decode cX10_guiltyKite 70 = .ok (.iconst 3, 1) := by decide +kernel
theorem dX10_guiltyKite_71 : decode cX10_guiltyKite 71 = .ok (.invokevirtual 308, 3) := by decide +kernel
theorem dX10_guiltyKite_74 : decode cX10_guiltyKite 74 = .ok (.ireturn, 1) := by decide +kernel
theorem dX10_verdictsIn_0 : decode cX10_verdictsIn 0 = .ok (.aload_n 0, 1) := by decide +kernel
theorem dX10_verdictsIn_1 : decode cX10_verdictsIn 1 = .ok (.iconst 0, 1) := by decide +kernel
theorem dX10_verdictsIn_2 : decode cX10_verdictsIn 2 = .ok (.putfield 62, 3) := by decide +kernel
theorem dX10_verdictsIn_5 : decode cX10_verdictsIn 5 = .ok (.iload_n 1, 1) := by decide +kernel
theorem dX10_verdictsIn_6 : decode cX10_verdictsIn 6 = .ok (.iconst 0, 1) := by decide +kernel
theorem dX10_verdictsIn_7 : decode cX10_verdictsIn 7 = .ok (.bipush 100, 2) := by decide +kernel
theorem dX10_verdictsIn_9 : decode cX10_verdictsIn 9 = .ok (.invokestatic 75, 3) := by decide +kernel
theorem dX10_verdictsIn_12 : decode cX10_verdictsIn 12 = .ok (.ifCond .ne 9, 3) := by decide +kernel
theorem dX10_verdictsIn_15 : decode cX10_verdictsIn 15 = .ok (.aload_n 0, 1) := by decide +kernel
theorem dX10_verdictsIn_16 : decode cX10_verdictsIn 16 = .ok (.iconst 1, 1) := by decide +kernel
theorem dX10_verdictsIn_17 : decode cX10_verdictsIn 17 = .ok (.invokevirtual 308, 3) := by decide +kernel
theorem dX10_verdictsIn_20 : decode cX10_verdictsIn 20 = .ok (.ireturn, 1) := by decide +kernel
theorem dX10_verdictsIn_21 : decode cX10_verdictsIn 21 = .ok (.aload_n 0, 1) := by decide +kernel
theorem dX10_verdictsIn_22 : decode cX10_verdictsIn 22 = .ok (.bipush 10, 2) := by decide +kernel
theorem dX10_verdictsIn_24 : decode cX10_verdictsIn 24 = .ok (.invokevirtual 71, 3) := by decide +kernel
theorem dX10_verdictsIn_27 : decode cX10_verdictsIn 27 = .ok (.aload_n 0, 1) := by decide +kernel
theorem dX10_verdictsIn_28 : decode cX10_verdictsIn 28 = .ok (.iload_n 1, 1) := by decide +kernel
theorem dX10_verdictsIn_29 : decode cX10_verdictsIn 29 = .ok (.invokevirtual 275, 3) := by decide +kernel
theorem dX10_verdictsIn_32 : decode cX10_verdictsIn 32 = .ok (.istore_n 2, 1) := by decide +kernel
theorem dX10_verdictsIn_33 : decode cX10_verdictsIn 33 = .ok (.aload_n 0, 1) := by decide +kernel
theorem dX10_verdictsIn_34 : decode cX10_verdictsIn 34 = .ok (.bipush 10, 2) := by decide +kernel
theorem dX10_verdictsIn_36 : decode cX10_verdictsIn 36 = .ok (.invokevirtual 317, 3) := by decide +kernel
theorem dX10_verdictsIn_39 : decode cX10_verdictsIn 39 = .ok (.iload_n 2, 1) := by decide +kernel
theorem dX10_verdictsIn_40 : decode cX10_verdictsIn 40 = .ok (.ireturn, 1) := by decide +kernel
theorem dX10_officeCoins_0 : decode cX10_officeCoins 0 = .ok (.aload_n 0, 1) := by decide +kernel
theorem dX10_officeCoins_1 : decode cX10_officeCoins 1 = .ok (.iconst 0, 1) := by decide +kernel
theorem dX10_officeCoins_2 : decode cX10_officeCoins 2 = .ok (.putfield 62, 3) := by decide +kernel
theorem dX10_officeCoins_5 : decode cX10_officeCoins 5 = .ok (.aload_n 0, 1) := by decide +kernel
theorem dX10_officeCoins_6 : decode cX10_officeCoins 6 = .ok (.getfield 7, 3) := by decide +kernel
theorem dX10_officeCoins_9 : decode cX10_officeCoins 9 = .ok (.bipush 9, 2) := by decide +kernel
theorem dX10_officeCoins_11 : decode cX10_officeCoins 11 = .ok (.iaload, 1) := by decide +kernel
theorem dX10_officeCoins_12 : decode cX10_officeCoins 12 = .ok (.ireturn, 1) := by decide +kernel
theorem dX10_coinError_0 : decode cX10_coinError 0 = .ok (.aload_n 0, 1) := by decide +kernel
theorem dX10_coinError_1 : decode cX10_coinError 1 = .ok (.iconst 0, 1) := by decide +kernel
theorem dX10_coinError_2 : decode cX10_coinError 2 = .ok (.putfield 62, 3) := by decide +kernel
theorem dX10_coinError_5 : decode cX10_coinError 5 = .ok (.aload_n 0, 1) := by decide +kernel
theorem dX10_coinError_6 : decode cX10_coinError 6 = .ok (.getfield 7, 3) := by decide +kernel
theorem dX10_coinError_9 : decode cX10_coinError 9 = .ok (.bipush 10, 2) := by decide +kernel
theorem dX10_coinError_11 : decode cX10_coinError 11 = .ok (.iaload, 1) := by decide +kernel
theorem dX10_coinError_12 : decode cX10_coinError 12 = .ok (.aload_n 0, 1) := by decide +kernel
theorem dX10_coinError_13 : decode cX10_coinError 13 = .ok (.getfield 7, 3) := by decide +kernel
theorem dX10_coinError_16 : decode cX10_coinError 16 = .ok (.bipush 9, 2) := by decide +kernel
theorem dX10_coinError_18 : decode cX10_coinError 18 = .ok (.iaload, 1) := by decide +kernel
theorem dX10_coinError_19 : decode cX10_coinError 19 = .ok (.isub, 1) := by decide +kernel
theorem dX10_coinError_20 : decode cX10_coinError 20 = .ok (.istore_n 1, 1) := by decide +kernel
theorem dX10_coinError_21 : decode cX10_coinError 21 = .ok (.iconst 0, 1) := by decide +kernel
theorem dX10_coinError_22 : decode cX10_coinError 22 = .ok (.istore_n 2, 1) := by decide +kernel
theorem dX10_coinError_23 : decode cX10_coinError 23 = .ok (.iload_n 2, 1) := by decide +kernel
theorem dX10_coinError_24 : decode cX10_coinError 24 = .ok (.aload_n 0, 1) := by decide +kernel
theorem dX10_coinError_25 : decode cX10_coinError 25 = .ok (.getfield 7, 3) := by decide +kernel
theorem dX10_coinError_28 : decode cX10_coinError 28 = .ok (.bipush 6, 2) := by decide +kernel
theorem dX10_coinError_30 : decode cX10_coinError 30 = .ok (.iaload, 1) := by decide +kernel
theorem dX10_coinError_31 : decode cX10_coinError 31 = .ok (.if_icmp .ge 18, 3) := by decide +kernel
theorem dX10_coinError_34 : decode cX10_coinError 34 = .ok (.iload_n 1, 1) := by decide +kernel
theorem dX10_coinError_35 : decode cX10_coinError 35 = .ok (.aload_n 0, 1) := by decide +kernel
theorem dX10_coinError_36 : decode cX10_coinError 36 = .ok (.iload_n 2, 1) := by decide +kernel
theorem dX10_coinError_37 : decode cX10_coinError 37 = .ok (.iconst 5, 1) := by decide +kernel
theorem dX10_coinError_38 : decode cX10_coinError 38 = .ok (.invokevirtual 79, 3) := by decide +kernel
theorem dX10_coinError_41 : decode cX10_coinError 41 = .ok (.isub, 1) := by decide +kernel
theorem dX10_coinError_42 : decode cX10_coinError 42 = .ok (.istore_n 1, 1) := by decide +kernel
theorem dX10_coinError_43 : decode cX10_coinError 43 = .ok (.iinc 2 1, 3) := by decide +kernel
theorem dX10_coinError_46 : decode cX10_coinError 46 = .ok (.goto (-23), 3) := by decide +kernel
theorem dX10_coinError_49 : decode cX10_coinError 49 = .ok (.iload_n 1, 1) := by decide +kernel
theorem dX10_coinError_50 : decode cX10_coinError 50 = .ok (.ireturn, 1) := by decide +kernel
theorem dX10_crossings_0 : decode cX10_crossings 0 = .ok (.sipush 214, 3) := by decide +kernel
theorem dX10_crossings_3 : decode cX10_crossings 3 = .ok (.iconst 3, 1) := by decide +kernel
theorem dX10_crossings_4 : decode cX10_crossings 4 = .ok (.iload_n 1, 1) := by decide +kernel
theorem dX10_crossings_5 : decode cX10_crossings 5 = .ok (.imul, 1) := by decide +kernel
theorem dX10_crossings_6 : decode cX10_crossings 6 = .ok (.iadd, 1) := by decide +kernel
theorem dX10_crossings_7 : decode cX10_crossings 7 = .ok (.istore_n 3, 1) := by decide +kernel
theorem dX10_crossings_8 : decode cX10_crossings 8 = .ok (.sipush 214, 3) := by decide +kernel
theorem dX10_crossings_11 : decode cX10_crossings 11 = .ok (.iconst 3, 1) := by decide +kernel
theorem dX10_crossings_12 : decode cX10_crossings 12 = .ok (.iload_n 2, 1) := by decide +kernel
theorem dX10_crossings_13 : decode cX10_crossings 13 = .ok (.imul, 1) := by decide +kernel
theorem dX10_crossings_14 : decode cX10_crossings 14 = .ok (.iadd, 1) := by decide +kernel
theorem dX10_crossings_15 : decode cX10_crossings 15 = .ok (.istore 4, 2) := by decide +kernel
theorem dX10_crossings_17 : decode cX10_crossings 17 = .ok (.iconst 0, 1) := by decide +kernel
theorem dX10_crossings_18 : decode cX10_crossings 18 = .ok (.istore 5, 2) := by decide +kernel
theorem dX10_crossings_20 : decode cX10_crossings 20 = .ok (.aload_n 0, 1) := by decide +kernel
theorem dX10_crossings_21 : decode cX10_crossings 21 = .ok (.getfield 7, 3) := by decide +kernel
theorem dX10_crossings_24 : decode cX10_crossings 24 = .ok (.iload_n 3, 1) := by decide +kernel
theorem dX10_crossings_25 : decode cX10_crossings 25 = .ok (.iaload, 1) := by decide +kernel
theorem dX10_crossings_26 : decode cX10_crossings 26 = .ok (.aload_n 0, 1) := by decide +kernel
theorem dX10_crossings_27 : decode cX10_crossings 27 = .ok (.getfield 7, 3) := by decide +kernel
theorem dX10_crossings_30 : decode cX10_crossings 30 = .ok (.iload 4, 2) := by decide +kernel
theorem dX10_crossings_32 : decode cX10_crossings 32 = .ok (.iaload, 1) := by decide +kernel
theorem dX10_crossings_33 : decode cX10_crossings 33 = .ok (.if_icmp .ne 5, 3) := by decide +kernel
theorem dX10_crossings_36 : decode cX10_crossings 36 = .ok (.iconst 0, 1) := by decide +kernel
theorem dX10_crossings_37 : decode cX10_crossings 37 = .ok (.ireturn, 1) := by decide +kernel
theorem dX10_crossings_38 : decode cX10_crossings 38 = .ok (.aload_n 0, 1) := by decide +kernel
theorem dX10_crossings_39 : decode cX10_crossings 39 = .ok (.getfield 7, 3) := by decide +kernel
theorem dX10_crossings_42 : decode cX10_crossings 42 = .ok (.bipush 7, 2) := by decide +kernel
theorem dX10_crossings_44 : decode cX10_crossings 44 = .ok (.iaload, 1) := by decide +kernel
theorem dX10_crossings_45 : decode cX10_crossings 45 = .ok (.aload_n 0, 1) := by decide +kernel
theorem dX10_crossings_46 : decode cX10_crossings 46 = .ok (.getfield 7, 3) := by decide +kernel
theorem dX10_crossings_49 : decode cX10_crossings 49 = .ok (.iload_n 3, 1) := by decide +kernel
theorem dX10_crossings_50 : decode cX10_crossings 50 = .ok (.iconst 1, 1) := by decide +kernel
theorem dX10_crossings_51 : decode cX10_crossings 51 = .ok (.iadd, 1) := by decide +kernel
theorem dX10_crossings_52 : decode cX10_crossings 52 = .ok (.iaload, 1) := by decide +kernel
theorem dX10_crossings_53 : decode cX10_crossings 53 = .ok (.invokestatic 118, 3) := by decide +kernel
theorem dX10_crossings_56 : decode cX10_crossings 56 = .ok (.istore 6, 2) := by decide +kernel
theorem dX10_crossings_58 : decode cX10_crossings 58 = .ok (.iload 6, 2) := by decide +kernel
theorem dX10_crossings_60 : decode cX10_crossings 60 = .ok (.aload_n 0, 1) := by decide +kernel
theorem dX10_crossings_61 : decode cX10_crossings 61 = .ok (.getfield 7, 3) := by decide +kernel
theorem dX10_crossings_64 : decode cX10_crossings 64 = .ok (.iload_n 3, 1) := by decide +kernel
theorem dX10_crossings_65 : decode cX10_crossings 65 = .ok (.iconst 1, 1) := by decide +kernel
theorem dX10_crossings_66 : decode cX10_crossings 66 = .ok (.iadd, 1) := by decide +kernel
theorem dX10_crossings_67 : decode cX10_crossings 67 = .ok (.iaload, 1) := by decide +kernel
theorem dX10_crossings_68 : decode cX10_crossings 68 = .ok (.aload_n 0, 1) := by decide +kernel
theorem dX10_crossings_69 : decode cX10_crossings 69 = .ok (.getfield 7, 3) := by decide +kernel
theorem dX10_crossings_72 : decode cX10_crossings 72 = .ok (.iload_n 3, 1) := by decide +kernel
theorem dX10_crossings_73 : decode cX10_crossings 73 = .ok (.iconst 2, 1) := by decide +kernel
theorem dX10_crossings_74 : decode cX10_crossings 74 = .ok (.iadd, 1) := by decide +kernel
theorem dX10_crossings_75 : decode cX10_crossings 75 = .ok (.iaload, 1) := by decide +kernel
theorem dX10_crossings_76 : decode cX10_crossings 76 = .ok (.iadd, 1) := by decide +kernel
theorem dX10_crossings_77 : decode cX10_crossings 77 = .ok (.if_icmp .ge 44, 3) := by decide +kernel
theorem dX10_crossings_80 : decode cX10_crossings 80 = .ok (.aload_n 0, 1) := by decide +kernel
theorem dX10_crossings_81 : decode cX10_crossings 81 = .ok (.iload_n 2, 1) := by decide +kernel
theorem dX10_crossings_82 : decode cX10_crossings 82 = .ok (.iload 6, 2) := by decide +kernel
theorem dX10_crossings_84 : decode cX10_crossings 84 = .ok (.invokevirtual 134, 3) := by decide +kernel
theorem dX10_crossings_87 : decode cX10_crossings 87 = .ok (.ifCond .eq 28, 3) := by decide +kernel
theorem dX10_crossings_90 : decode cX10_crossings 90 = .ok (.aload_n 0, 1) := by decide +kernel
theorem dX10_crossings_91 : decode cX10_crossings 91 = .ok (.aload_n 0, 1) := by decide +kernel
theorem dX10_crossings_92 : decode cX10_crossings 92 = .ok (.getfield 7, 3) := by decide +kernel
theorem dX10_crossings_95 : decode cX10_crossings 95 = .ok (.iload_n 3, 1) := by decide +kernel
theorem dX10_crossings_96 : decode cX10_crossings 96 = .ok (.iaload, 1) := by decide +kernel
theorem dX10_crossings_97 : decode cX10_crossings 97 = .ok (.aload_n 0, 1) := by decide +kernel
theorem dX10_crossings_98 : decode cX10_crossings 98 = .ok (.getfield 7, 3) := by decide +kernel
theorem dX10_crossings_101 : decode cX10_crossings 101 = .ok (.iload 4, 2) := by decide +kernel
theorem dX10_crossings_103 : decode cX10_crossings 103 = .ok (.iaload, 1) := by decide +kernel
theorem dX10_crossings_104 : decode cX10_crossings 104 = .ok (.iload 6, 2) := by decide +kernel
theorem dX10_crossings_106 : decode cX10_crossings 106 = .ok (.invokevirtual 141, 3) := by decide +kernel
theorem dX10_crossings_109 : decode cX10_crossings 109 = .ok (.ifCond .eq 6, 3) := by decide +kernel
theorem dX10_crossings_112 : decode cX10_crossings 112 = .ok (.iinc 5 1, 3) := by decide +kernel
theorem dX10_crossings_115 : decode cX10_crossings 115 = .ok (.iinc 6 1, 3) := by decide +kernel
theorem dX10_crossings_118 : decode cX10_crossings 118 = .ok (.goto (-60), 3) := by decide +kernel
theorem dX10_crossings_121 : decode cX10_crossings 121 = .ok (.iload 5, 2) := by decide +kernel
theorem dX10_crossings_123 : decode cX10_crossings 123 = .ok (.ireturn, 1) := by decide +kernel
theorem dX10_permittedCrossings_0 : decode cX10_permittedCrossings 0 = .ok (.aload_n 0, 1) := by decide +kernel
theorem dX10_permittedCrossings_1 : decode cX10_permittedCrossings 1 = .ok (.iconst 0, 1) := by decide +kernel
theorem dX10_permittedCrossings_2 : decode cX10_permittedCrossings 2 = .ok (.putfield 62, 3) := by decide +kernel
theorem dX10_permittedCrossings_5 : decode cX10_permittedCrossings 5 = .ok (.iconst 0, 1) := by decide +kernel
theorem dX10_permittedCrossings_6 : decode cX10_permittedCrossings 6 = .ok (.istore_n 1, 1) := by decide +kernel
theorem dX10_permittedCrossings_7 : decode cX10_permittedCrossings 7 = .ok (.iconst 0, 1) := by decide +kernel
theorem dX10_permittedCrossings_8 : decode cX10_permittedCrossings 8 = .ok (.istore_n 2, 1) := by decide +kernel
theorem dX10_permittedCrossings_9 : decode cX10_permittedCrossings 9 = .ok (.iload_n 2, 1) := by decide +kernel
theorem dX10_permittedCrossings_10 : decode cX10_permittedCrossings 10 = .ok (.aload_n 0, 1) := by decide +kernel
theorem dX10_permittedCrossings_11 : decode cX10_permittedCrossings 11 = .ok (.getfield 7, 3) := by decide +kernel
theorem dX10_permittedCrossings_14 : decode cX10_permittedCrossings 14 = .ok (.bipush 11, 2) := by decide +kernel
theorem dX10_permittedCrossings_16 : decode cX10_permittedCrossings 16 = .ok (.iaload, 1) := by decide +kernel
theorem dX10_permittedCrossings_17 : decode cX10_permittedCrossings 17 = .ok (.if_icmp .ge 39, 3) := by decide +kernel
theorem dX10_permittedCrossings_20 : decode cX10_permittedCrossings 20 = .ok (.iload_n 2, 1) := by decide +kernel
theorem dX10_permittedCrossings_21 : decode cX10_permittedCrossings 21 = .ok (.iconst 1, 1) := by decide +kernel
theorem dX10_permittedCrossings_22 : decode cX10_permittedCrossings 22 = .ok (.iadd, 1) := by decide +kernel
theorem dX10_permittedCrossings_23 : decode cX10_permittedCrossings 23 = .ok (.istore_n 3, 1) := by decide +kernel
theorem dX10_permittedCrossings_24 : decode cX10_permittedCrossings 24 = .ok (.iload_n 3, 1) := by decide +kernel
theorem dX10_permittedCrossings_25 : decode cX10_permittedCrossings 25 = .ok (.aload_n 0, 1) := by decide +kernel
theorem dX10_permittedCrossings_26 : decode cX10_permittedCrossings 26 = .ok (.getfield 7, 3) := by decide +kernel
theorem dX10_permittedCrossings_29 : decode cX10_permittedCrossings 29 = .ok (.bipush 11, 2) := by decide +kernel
theorem dX10_permittedCrossings_31 : decode cX10_permittedCrossings 31 = .ok (.iaload, 1) := by decide +kernel
theorem dX10_permittedCrossings_32 : decode cX10_permittedCrossings 32 = .ok (.if_icmp .ge 18, 3) := by decide +kernel
theorem dX10_permittedCrossings_35 : decode cX10_permittedCrossings 35 = .ok (.iload_n 1, 1) := by decide +kernel
theorem dX10_permittedCrossings_36 : decode cX10_permittedCrossings 36 = .ok (.aload_n 0, 1) := by decide +kernel
theorem dX10_permittedCrossings_37 : decode cX10_permittedCrossings 37 = .ok (.iload_n 2, 1) := by decide +kernel
theorem dX10_permittedCrossings_38 : decode cX10_permittedCrossings 38 = .ok (.iload_n 3, 1) := by decide +kernel
theorem dX10_permittedCrossings_39 : decode cX10_permittedCrossings 39 = .ok (.invokevirtual 350, 3) := by decide +kernel
theorem dX10_permittedCrossings_42 : decode cX10_permittedCrossings 42 = .ok (.iadd, 1) := by decide +kernel
theorem dX10_permittedCrossings_43 : decode cX10_permittedCrossings 43 = .ok (.istore_n 1, 1) := by decide +kernel
theorem dX10_permittedCrossings_44 : decode cX10_permittedCrossings 44 = .ok (.iinc 3 1, 3) := by decide +kernel
theorem dX10_permittedCrossings_47 : decode cX10_permittedCrossings 47 = .ok (.goto (-23), 3) := by decide +kernel
theorem dX10_permittedCrossings_50 : decode cX10_permittedCrossings 50 = .ok (.iinc 2 1, 3) := by decide +kernel
theorem dX10_permittedCrossings_53 : decode cX10_permittedCrossings 53 = .ok (.goto (-44), 3) := by decide +kernel
theorem dX10_permittedCrossings_56 : decode cX10_permittedCrossings 56 = .ok (.iload_n 1, 1) := by decide +kernel
theorem dX10_permittedCrossings_57 : decode cX10_permittedCrossings 57 = .ok (.ireturn, 1) := by decide +kernel
theorem dX10_meanReach_0 : decode cX10_meanReach 0 = .ok (.aload_n 0, 1) := by decide +kernel
theorem dX10_meanReach_1 : decode cX10_meanReach 1 = .ok (.iconst 0, 1) := by decide +kernel
theorem dX10_meanReach_2 : decode cX10_meanReach 2 = .ok (.putfield 62, 3) := by decide +kernel
theorem dX10_meanReach_5 : decode cX10_meanReach 5 = .ok (.iconst 0, 1) := by decide +kernel
theorem dX10_meanReach_6 : decode cX10_meanReach 6 = .ok (.istore_n 1, 1) := by decide +kernel
theorem dX10_meanReach_7 : decode cX10_meanReach 7 = .ok (.aload_n 0, 1) := by decide +kernel
theorem dX10_meanReach_8 : decode cX10_meanReach 8 = .ok (.iconst 1, 1) := by decide +kernel
theorem dX10_meanReach_9 : decode cX10_meanReach 9 = .ok (.invokevirtual 159, 3) := by decide +kernel
theorem dX10_meanReach_12 : decode cX10_meanReach 12 = .ok (.istore_n 2, 1) := by decide +kernel
theorem dX10_meanReach_13 : decode cX10_meanReach 13 = .ok (.iconst 0, 1) := by decide +kernel
theorem dX10_meanReach_14 : decode cX10_meanReach 14 = .ok (.istore_n 3, 1) := by decide +kernel
theorem dX10_meanReach_15 : decode cX10_meanReach 15 = .ok (.iload_n 3, 1) := by decide +kernel
theorem dX10_meanReach_16 : decode cX10_meanReach 16 = .ok (.aload_n 0, 1) := by decide +kernel
theorem dX10_meanReach_17 : decode cX10_meanReach 17 = .ok (.getfield 7, 3) := by decide +kernel
theorem dX10_meanReach_20 : decode cX10_meanReach 20 = .ok (.bipush 6, 2) := by decide +kernel
theorem dX10_meanReach_22 : decode cX10_meanReach 22 = .ok (.iaload, 1) := by decide +kernel
theorem dX10_meanReach_23 : decode cX10_meanReach 23 = .ok (.if_icmp .ge 35, 3) := by decide +kernel
theorem dX10_meanReach_26 : decode cX10_meanReach 26 = .ok (.aload_n 0, 1) := by decide +kernel
theorem dX10_meanReach_27 : decode cX10_meanReach 27 = .ok (.iload_n 3, 1) := by decide +kernel
theorem dX10_meanReach_28 : decode cX10_meanReach 28 = .ok (.bipush 6, 2) := by decide +kernel
theorem dX10_meanReach_30 : decode cX10_meanReach 30 = .ok (.invokevirtual 79, 3) := by decide +kernel
theorem dX10_meanReach_33 : decode cX10_meanReach 33 = .ok (.iconst 1, 1) := by decide +kernel
theorem dX10_meanReach_34 : decode cX10_meanReach 34 = .ok (.if_icmp .ne 18, 3) := by decide +kernel
theorem dX10_meanReach_37 : decode cX10_meanReach 37 = .ok (.iload_n 1, 1) := by decide +kernel
theorem dX10_meanReach_38 : decode cX10_meanReach 38 = .ok (.aload_n 0, 1) := by decide +kernel
theorem dX10_meanReach_39 : decode cX10_meanReach 39 = .ok (.iload_n 3, 1) := by decide +kernel
theorem dX10_meanReach_40 : decode cX10_meanReach 40 = .ok (.aload_n 0, 1) := by decide +kernel
theorem dX10_meanReach_41 : decode cX10_meanReach 41 = .ok (.getfield 7, 3) := by decide +kernel
theorem dX10_meanReach_44 : decode cX10_meanReach 44 = .ok (.bipush 7, 2) := by decide +kernel
theorem dX10_meanReach_46 : decode cX10_meanReach 46 = .ok (.iaload, 1) := by decide +kernel
theorem dX10_meanReach_47 : decode cX10_meanReach 47 = .ok (.invokevirtual 106, 3) := by decide +kernel
theorem dX10_meanReach_50 : decode cX10_meanReach 50 = .ok (.iadd, 1) := by decide +kernel
theorem dX10_meanReach_51 : decode cX10_meanReach 51 = .ok (.istore_n 1, 1) := by decide +kernel
theorem dX10_meanReach_52 : decode cX10_meanReach 52 = .ok (.iinc 3 1, 3) := by decide +kernel
theorem dX10_meanReach_55 : decode cX10_meanReach 55 = .ok (.goto (-40), 3) := by decide +kernel
theorem dX10_meanReach_58 : decode cX10_meanReach 58 = .ok (.iload_n 2, 1) := by decide +kernel
theorem dX10_meanReach_59 : decode cX10_meanReach 59 = .ok (.ifCond .ne 7, 3) := by decide +kernel
theorem dX10_meanReach_62 : decode cX10_meanReach 62 = .ok (.dconst 0, 1) := by decide +kernel
theorem dX10_meanReach_63 : decode cX10_meanReach 63 = .ok (.goto 8, 3) := by decide +kernel
theorem dX10_meanReach_66 : decode cX10_meanReach 66 = .ok (.iload_n 1, 1) := by decide +kernel
theorem dX10_meanReach_67 : decode cX10_meanReach 67 = .ok (.i2d, 1) := by decide +kernel
theorem dX10_meanReach_68 : decode cX10_meanReach 68 = .ok (.iload_n 2, 1) := by decide +kernel
theorem dX10_meanReach_69 : decode cX10_meanReach 69 = .ok (.i2d, 1) := by decide +kernel
theorem dX10_meanReach_70 : decode cX10_meanReach 70 = .ok (.ddiv, 1) := by decide +kernel
theorem dX10_meanReach_71 : decode cX10_meanReach 71 = .ok (.dreturn, 1) := by decide +kernel
theorem dX10_tangledShare_0 : decode cX10_tangledShare 0 = .ok (.aload_n 0, 1) := by decide +kernel
theorem dX10_tangledShare_1 : decode cX10_tangledShare 1 = .ok (.iconst 0, 1) := by decide +kernel
theorem dX10_tangledShare_2 : decode cX10_tangledShare 2 = .ok (.putfield 62, 3) := by decide +kernel
theorem dX10_tangledShare_5 : decode cX10_tangledShare 5 = .ok (.aload_n 0, 1) := by decide +kernel
theorem dX10_tangledShare_6 : decode cX10_tangledShare 6 = .ok (.getfield 7, 3) := by decide +kernel
theorem dX10_tangledShare_9 : decode cX10_tangledShare 9 = .ok (.bipush 6, 2) := by decide +kernel
theorem dX10_tangledShare_11 : decode cX10_tangledShare 11 = .ok (.iaload, 1) := by decide +kernel
theorem dX10_tangledShare_12 : decode cX10_tangledShare 12 = .ok (.ifCond .ne 7, 3) := by decide +kernel
theorem dX10_tangledShare_15 : decode cX10_tangledShare 15 = .ok (.fconst 0, 1) := by decide +kernel
theorem dX10_tangledShare_16 : decode cX10_tangledShare 16 = .ok (.goto 18, 3) := by decide +kernel
theorem dX10_tangledShare_19 : decode cX10_tangledShare 19 = .ok (.aload_n 0, 1) := by decide +kernel
theorem dX10_tangledShare_20 : decode cX10_tangledShare 20 = .ok (.iconst 2, 1) := by decide +kernel
theorem dX10_tangledShare_21 : decode cX10_tangledShare 21 = .ok (.invokevirtual 159, 3) := by decide +kernel
theorem dX10_tangledShare_24 : decode cX10_tangledShare 24 = .ok (.i2f, 1) := by decide +kernel
theorem dX10_tangledShare_25 : decode cX10_tangledShare 25 = .ok (.aload_n 0, 1) := by decide +kernel
theorem dX10_tangledShare_26 : decode cX10_tangledShare 26 = .ok (.getfield 7, 3) := by decide +kernel
theorem dX10_tangledShare_29 : decode cX10_tangledShare 29 = .ok (.bipush 6, 2) := by decide +kernel
theorem dX10_tangledShare_31 : decode cX10_tangledShare 31 = .ok (.iaload, 1) := by decide +kernel
theorem dX10_tangledShare_32 : decode cX10_tangledShare 32 = .ok (.i2f, 1) := by decide +kernel
theorem dX10_tangledShare_33 : decode cX10_tangledShare 33 = .ok (.fdiv, 1) := by decide +kernel
theorem dX10_tangledShare_34 : decode cX10_tangledShare 34 = .ok (.freturn, 1) := by decide +kernel
theorem dX10_write_0 : decode cX10_write 0 = .ok (.iconst 1, 1) := by decide +kernel
theorem dX10_write_1 : decode cX10_write 1 = .ok (.istore_n 2, 1) := by decide +kernel
theorem dX10_write_2 : decode cX10_write 2 = .ok (.iload_n 1, 1) := by decide +kernel
theorem dX10_write_3 : decode cX10_write 3 = .ok (.iload_n 2, 1) := by decide +kernel
theorem dX10_write_4 : decode cX10_write 4 = .ok (.idiv, 1) := by decide +kernel
theorem dX10_write_5 : decode cX10_write 5 = .ok (.bipush 9, 2) := by decide +kernel
theorem dX10_write_7 : decode cX10_write 7 = .ok (.if_icmp .le 11, 3) := by decide +kernel
theorem dX10_write_10 : decode cX10_write 10 = .ok (.iload_n 2, 1) := by decide +kernel
theorem dX10_write_11 : decode cX10_write 11 = .ok (.bipush 10, 2) := by decide +kernel
theorem dX10_write_13 : decode cX10_write 13 = .ok (.imul, 1) := by decide +kernel
theorem dX10_write_14 : decode cX10_write 14 = .ok (.istore_n 2, 1) := by decide +kernel
theorem dX10_write_15 : decode cX10_write 15 = .ok (.goto (-13), 3) := by decide +kernel
theorem dX10_write_18 : decode cX10_write 18 = .ok (.iload_n 2, 1) := by decide +kernel
theorem dX10_write_19 : decode cX10_write 19 = .ok (.ifCond .le 37, 3) := by decide +kernel
theorem dX10_write_22 : decode cX10_write 22 = .ok (.aload_n 0, 1) := by decide +kernel
theorem dX10_write_23 : decode cX10_write 23 = .ok (.getfield 28, 3) := by decide +kernel
theorem dX10_write_26 : decode cX10_write 26 = .ok (.aload_n 0, 1) := by decide +kernel
theorem dX10_write_27 : decode cX10_write 27 = .ok (.dup, 1) := by decide +kernel
theorem dX10_write_28 : decode cX10_write 28 = .ok (.getfield 353, 3) := by decide +kernel
theorem dX10_write_31 : decode cX10_write 31 = .ok (.dup_x1, 1) := by decide +kernel
theorem dX10_write_32 : decode cX10_write 32 = .ok (.iconst 1, 1) := by decide +kernel
theorem dX10_write_33 : decode cX10_write 33 = .ok (.iadd, 1) := by decide +kernel
theorem dX10_write_34 : decode cX10_write 34 = .ok (.putfield 353, 3) := by decide +kernel
theorem dX10_write_37 : decode cX10_write 37 = .ok (.bipush 48, 2) := by decide +kernel
theorem dX10_write_39 : decode cX10_write 39 = .ok (.iload_n 1, 1) := by decide +kernel
theorem dX10_write_40 : decode cX10_write 40 = .ok (.iload_n 2, 1) := by decide +kernel
theorem dX10_write_41 : decode cX10_write 41 = .ok (.idiv, 1) := by decide +kernel
theorem dX10_write_42 : decode cX10_write 42 = .ok (.bipush 10, 2) := by decide +kernel
theorem dX10_write_44 : decode cX10_write 44 = .ok (.irem, 1) := by decide +kernel
theorem dX10_write_45 : decode cX10_write 45 = .ok (.iadd, 1) := by decide +kernel
theorem dX10_write_46 : decode cX10_write 46 = .ok (.i2b, 1) := by decide +kernel
theorem dX10_write_47 : decode cX10_write 47 = .ok (.bastore, 1) := by decide +kernel
theorem dX10_write_48 : decode cX10_write 48 = .ok (.iload_n 2, 1) := by decide +kernel
theorem dX10_write_49 : decode cX10_write 49 = .ok (.bipush 10, 2) := by decide +kernel
theorem dX10_write_51 : decode cX10_write 51 = .ok (.idiv, 1) := by decide +kernel
theorem dX10_write_52 : decode cX10_write 52 = .ok (.istore_n 2, 1) := by decide +kernel
theorem dX10_write_53 : decode cX10_write 53 = .ok (.goto (-35), 3) := by decide +kernel
theorem dX10_write_56 : decode cX10_write 56 = .ok (.return_, 1) := by decide +kernel
theorem dX10_writePermits_0 : decode cX10_writePermits 0 = .ok (.aload_n 0, 1) := by decide +kernel
theorem dX10_writePermits_1 : decode cX10_writePermits 1 = .ok (.iconst 0, 1) := by decide +kernel
theorem dX10_writePermits_2 : decode cX10_writePermits 2 = .ok (.putfield 62, 3) := by decide +kernel
theorem dX10_writePermits_5 : decode cX10_writePermits 5 = .ok (.aload_n 0, 1) := by decide +kernel
theorem dX10_writePermits_6 : decode cX10_writePermits 6 = .ok (.iconst 0, 1) := by decide +kernel
theorem dX10_writePermits_7 : decode cX10_writePermits 7 = .ok (.putfield 353, 3) := by decide +kernel
theorem dX10_writePermits_10 : decode cX10_writePermits 10 = .ok (.iconst 0, 1) := by decide +kernel
theorem dX10_writePermits_11 : decode cX10_writePermits 11 = .ok (.istore_n 1, 1) := by decide +kernel
theorem dX10_writePermits_12 : decode cX10_writePermits 12 = .ok (.iload_n 1, 1) := by decide +kernel
theorem dX10_writePermits_13 : decode cX10_writePermits 13 = .ok (.aload_n 0, 1) := by decide +kernel
theorem dX10_writePermits_14 : decode cX10_writePermits 14 = .ok (.getfield 7, 3) := by decide +kernel
theorem dX10_writePermits_17 : decode cX10_writePermits 17 = .ok (.bipush 11, 2) := by decide +kernel
theorem dX10_writePermits_19 : decode cX10_writePermits 19 = .ok (.iaload, 1) := by decide +kernel
theorem dX10_writePermits_20 : decode cX10_writePermits 20 = .ok (.if_icmp .ge 119, 3) := by decide +kernel
theorem dX10_writePermits_23 : decode cX10_writePermits 23 = .ok (.iload_n 1, 1) := by decide +kernel
theorem dX10_writePermits_24 : decode cX10_writePermits 24 = .ok (.ifCond .le 21, 3) := by decide +kernel
theorem dX10_writePermits_27 : decode cX10_writePermits 27 = .ok (.aload_n 0, 1) := by decide +kernel
theorem dX10_writePermits_28 : decode cX10_writePermits 28 = .ok (.getfield 28, 3) := by decide +kernel
theorem dX10_writePermits_31 : decode cX10_writePermits 31 = .ok (.aload_n 0, 1) := by decide +kernel
theorem dX10_writePermits_32 : decode cX10_writePermits 32 = .ok (.dup, 1) := by decide +kernel
theorem dX10_writePermits_33 : decode cX10_writePermits 33 = .ok (.getfield 353, 3) := by decide +kernel
theorem dX10_writePermits_36 : decode cX10_writePermits 36 = .ok (.dup_x1, 1) := by decide +kernel
theorem dX10_writePermits_37 : decode cX10_writePermits 37 = .ok (.iconst 1, 1) := by decide +kernel
theorem dX10_writePermits_38 : decode cX10_writePermits 38 = .ok (.iadd, 1) := by decide +kernel
theorem dX10_writePermits_39 : decode cX10_writePermits 39 = .ok (.putfield 353, 3) := by decide +kernel
theorem dX10_writePermits_42 : decode cX10_writePermits 42 = .ok (.bipush 32, 2) := by decide +kernel
theorem dX10_writePermits_44 : decode cX10_writePermits 44 = .ok (.bastore, 1) := by decide +kernel
theorem dX10_writePermits_45 : decode cX10_writePermits 45 = .ok (.aload_n 0, 1) := by decide +kernel
theorem dX10_writePermits_46 : decode cX10_writePermits 46 = .ok (.aload_n 0, 1) := by decide +kernel
theorem dX10_writePermits_47 : decode cX10_writePermits 47 = .ok (.getfield 7, 3) := by decide +kernel
theorem dX10_writePermits_50 : decode cX10_writePermits 50 = .ok (.sipush 214, 3) := by decide +kernel
theorem dX10_writePermits_53 : decode cX10_writePermits 53 = .ok (.iconst 3, 1) := by decide +kernel
theorem dX10_writePermits_54 : decode cX10_writePermits 54 = .ok (.iload_n 1, 1) := by decide +kernel
theorem dX10_writePermits_55 : decode cX10_writePermits 55 = .ok (.imul, 1) := by decide +kernel
theorem dX10_writePermits_56 : decode cX10_writePermits 56 = .ok (.iadd, 1) := by decide +kernel
theorem dX10_writePermits_57 : decode cX10_writePermits 57 = .ok (.iaload, 1) := by decide +kernel
theorem dX10_writePermits_58 : decode cX10_writePermits 58 = .ok (.invokevirtual 356, 3) := by decide +kernel
theorem dX10_writePermits_61 : decode cX10_writePermits 61 = .ok (.aload_n 0, 1) := by decide +kernel
theorem dX10_writePermits_62 : decode cX10_writePermits 62 = .ok (.getfield 28, 3) := by decide +kernel
theorem dX10_writePermits_65 : decode cX10_writePermits 65 = .ok (.aload_n 0, 1) := by decide +kernel
theorem dX10_writePermits_66 : decode cX10_writePermits 66 = .ok (.dup, 1) := by decide +kernel
theorem dX10_writePermits_67 : decode cX10_writePermits 67 = .ok (.getfield 353, 3) := by decide +kernel
theorem dX10_writePermits_70 : decode cX10_writePermits 70 = .ok (.dup_x1, 1) := by decide +kernel
theorem dX10_writePermits_71 : decode cX10_writePermits 71 = .ok (.iconst 1, 1) := by decide +kernel
theorem dX10_writePermits_72 : decode cX10_writePermits 72 = .ok (.iadd, 1) := by decide +kernel
theorem dX10_writePermits_73 : decode cX10_writePermits 73 = .ok (.putfield 353, 3) := by decide +kernel
theorem dX10_writePermits_76 : decode cX10_writePermits 76 = .ok (.bipush 58, 2) := by decide +kernel
theorem dX10_writePermits_78 : decode cX10_writePermits 78 = .ok (.bastore, 1) := by decide +kernel
theorem dX10_writePermits_79 : decode cX10_writePermits 79 = .ok (.aload_n 0, 1) := by decide +kernel
theorem dX10_writePermits_80 : decode cX10_writePermits 80 = .ok (.aload_n 0, 1) := by decide +kernel
theorem dX10_writePermits_81 : decode cX10_writePermits 81 = .ok (.getfield 7, 3) := by decide +kernel
theorem dX10_writePermits_84 : decode cX10_writePermits 84 = .ok (.sipush 214, 3) := by decide +kernel
theorem dX10_writePermits_87 : decode cX10_writePermits 87 = .ok (.iconst 3, 1) := by decide +kernel
theorem dX10_writePermits_88 : decode cX10_writePermits 88 = .ok (.iload_n 1, 1) := by decide +kernel
theorem dX10_writePermits_89 : decode cX10_writePermits 89 = .ok (.imul, 1) := by decide +kernel
theorem dX10_writePermits_90 : decode cX10_writePermits 90 = .ok (.iadd, 1) := by decide +kernel
theorem dX10_writePermits_91 : decode cX10_writePermits 91 = .ok (.iconst 1, 1) := by decide +kernel
theorem dX10_writePermits_92 : decode cX10_writePermits 92 = .ok (.iadd, 1) := by decide +kernel
theorem dX10_writePermits_93 : decode cX10_writePermits 93 = .ok (.iaload, 1) := by decide +kernel
theorem dX10_writePermits_94 : decode cX10_writePermits 94 = .ok (.invokevirtual 356, 3) := by decide +kernel
theorem dX10_writePermits_97 : decode cX10_writePermits 97 = .ok (.aload_n 0, 1) := by decide +kernel
theorem dX10_writePermits_98 : decode cX10_writePermits 98 = .ok (.getfield 28, 3) := by decide +kernel
theorem dX10_writePermits_101 : decode cX10_writePermits 101 = .ok (.aload_n 0, 1) := by decide +kernel
theorem dX10_writePermits_102 : decode cX10_writePermits 102 = .ok (.dup, 1) := by decide +kernel
theorem dX10_writePermits_103 : decode cX10_writePermits 103 = .ok (.getfield 353, 3) := by decide +kernel
theorem dX10_writePermits_106 : decode cX10_writePermits 106 = .ok (.dup_x1, 1) := by decide +kernel
theorem dX10_writePermits_107 : decode cX10_writePermits 107 = .ok (.iconst 1, 1) := by decide +kernel
theorem dX10_writePermits_108 : decode cX10_writePermits 108 = .ok (.iadd, 1) := by decide +kernel
theorem dX10_writePermits_109 : decode cX10_writePermits 109 = .ok (.putfield 353, 3) := by decide +kernel
theorem dX10_writePermits_112 : decode cX10_writePermits 112 = .ok (.bipush 43, 2) := by decide +kernel
theorem dX10_writePermits_114 : decode cX10_writePermits 114 = .ok (.bastore, 1) := by decide +kernel
theorem dX10_writePermits_115 : decode cX10_writePermits 115 = .ok (.aload_n 0, 1) := by decide +kernel
theorem dX10_writePermits_116 : decode cX10_writePermits 116 = .ok (.aload_n 0, 1) := by decide +kernel
theorem dX10_writePermits_117 : decode cX10_writePermits 117 = .ok (.getfield 7, 3) := by decide +kernel
theorem dX10_writePermits_120 : decode cX10_writePermits 120 = .ok (.sipush 214, 3) := by decide +kernel
theorem dX10_writePermits_123 : decode cX10_writePermits 123 = .ok (.iconst 3, 1) := by decide +kernel
theorem dX10_writePermits_124 : decode cX10_writePermits 124 = .ok (.iload_n 1, 1) := by decide +kernel
theorem dX10_writePermits_125 : decode cX10_writePermits 125 = .ok (.imul, 1) := by decide +kernel
theorem dX10_writePermits_126 : decode cX10_writePermits 126 = .ok (.iadd, 1) := by decide +kernel
theorem dX10_writePermits_127 : decode cX10_writePermits 127 = .ok (.iconst 2, 1) := by decide +kernel
theorem dX10_writePermits_128 : decode cX10_writePermits 128 = .ok (.iadd, 1) := by decide +kernel
theorem dX10_writePermits_129 : decode cX10_writePermits 129 = .ok (.iaload, 1) := by decide +kernel
theorem dX10_writePermits_130 : decode cX10_writePermits 130 = .ok (.invokevirtual 356, 3) := by decide +kernel
theorem dX10_writePermits_133 : decode cX10_writePermits 133 = .ok (.iinc 1 1, 3) := by decide +kernel
theorem dX10_writePermits_136 : decode cX10_writePermits 136 = .ok (.goto (-124), 3) := by decide +kernel
theorem dX10_writePermits_139 : decode cX10_writePermits 139 = .ok (.aload_n 0, 1) := by decide +kernel
theorem dX10_writePermits_140 : decode cX10_writePermits 140 = .ok (.getfield 353, 3) := by decide +kernel
theorem dX10_writePermits_143 : decode cX10_writePermits 143 = .ok (.ireturn, 1) := by decide +kernel
theorem dX10_outputByte_0 : decode cX10_outputByte 0 = .ok (.aload_n 0, 1) := by decide +kernel
theorem dX10_outputByte_1 : decode cX10_outputByte 1 = .ok (.iconst 0, 1) := by decide +kernel
theorem dX10_outputByte_2 : decode cX10_outputByte 2 = .ok (.putfield 62, 3) := by decide +kernel
theorem dX10_outputByte_5 : decode cX10_outputByte 5 = .ok (.iload_n 1, 1) := by decide +kernel
theorem dX10_outputByte_6 : decode cX10_outputByte 6 = .ok (.iconst 0, 1) := by decide +kernel
theorem dX10_outputByte_7 : decode cX10_outputByte 7 = .ok (.aload_n 0, 1) := by decide +kernel
theorem dX10_outputByte_8 : decode cX10_outputByte 8 = .ok (.getfield 353, 3) := by decide +kernel
theorem dX10_outputByte_11 : decode cX10_outputByte 11 = .ok (.iconst 1, 1) := by decide +kernel
theorem dX10_outputByte_12 : decode cX10_outputByte 12 = .ok (.isub, 1) := by decide +kernel
theorem dX10_outputByte_13 : decode cX10_outputByte 13 = .ok (.invokestatic 75, 3) := by decide +kernel
theorem dX10_outputByte_16 : decode cX10_outputByte 16 = .ok (.ifCond .eq 12, 3) := by decide +kernel
theorem dX10_outputByte_19 : decode cX10_outputByte 19 = .ok (.aload_n 0, 1) := by decide +kernel
theorem dX10_outputByte_20 : decode cX10_outputByte 20 = .ok (.getfield 28, 3) := by decide +kernel
theorem dX10_outputByte_23 : decode cX10_outputByte 23 = .ok (.iload_n 1, 1) := by decide +kernel
theorem dX10_outputByte_24 : decode cX10_outputByte 24 = .ok (.baload, 1) := by decide +kernel
theorem dX10_outputByte_25 : decode cX10_outputByte 25 = .ok (.goto 4, 3) := by decide +kernel
theorem dX10_outputByte_28 : decode cX10_outputByte 28 = .ok (.iconst (-1), 1) := by decide +kernel
theorem dX10_outputByte_29 : decode cX10_outputByte 29 = .ok (.ireturn, 1) := by decide +kernel
theorem dJ9_max_7cf53_0 : decode cJ9_max_7cf53 0 = .ok (.iload_n 0, 1) := by decide +kernel
theorem dJ9_max_7cf53_1 : decode cJ9_max_7cf53 1 = .ok (.iload_n 1, 1) := by decide +kernel
theorem dJ9_max_7cf53_2 : decode cJ9_max_7cf53 2 = .ok (.if_icmp .lt 7, 3) := by decide +kernel
theorem dJ9_max_7cf53_5 : decode cJ9_max_7cf53 5 = .ok (.iload_n 0, 1) := by decide +kernel
theorem dJ9_max_7cf53_6 : decode cJ9_max_7cf53 6 = .ok (.goto 4, 3) := by decide +kernel
theorem dJ9_max_7cf53_9 : decode cJ9_max_7cf53 9 = .ok (.iload_n 1, 1) := by decide +kernel
theorem dJ9_max_7cf53_10 : decode cJ9_max_7cf53 10 = .ok (.ireturn, 1) := by decide +kernel
theorem dJ9_min_7cf53_0 : decode cJ9_min_7cf53 0 = .ok (.iload_n 0, 1) := by decide +kernel
theorem dJ9_min_7cf53_1 : decode cJ9_min_7cf53 1 = .ok (.iload_n 1, 1) := by decide +kernel
theorem dJ9_min_7cf53_2 : decode cJ9_min_7cf53 2 = .ok (.if_icmp .gt 7, 3) := by decide +kernel
theorem dJ9_min_7cf53_5 : decode cJ9_min_7cf53 5 = .ok (.iload_n 0, 1) := by decide +kernel
theorem dJ9_min_7cf53_6 : decode cJ9_min_7cf53 6 = .ok (.goto 4, 3) := by decide +kernel
theorem dJ9_min_7cf53_9 : decode cJ9_min_7cf53 9 = .ok (.iload_n 1, 1) := by decide +kernel
theorem dJ9_min_7cf53_10 : decode cJ9_min_7cf53 10 = .ok (.ireturn, 1) := by decide +kernel
theorem dJ0_length_8abf5_0 : decode cJ0_length_8abf5 0 = .ok (.aload_n 0, 1) := by decide +kernel
theorem dJ0_length_8abf5_1 : decode cJ0_length_8abf5 1 = .ok (.getfield 9, 3) := by decide +kernel
theorem dJ0_length_8abf5_4 : decode cJ0_length_8abf5 4 = .ok (.arraylength, 1) := by decide +kernel
theorem dJ0_length_8abf5_5 : decode cJ0_length_8abf5 5 = .ok (.aload_n 0, 1) := by decide +kernel
theorem dJ0_length_8abf5_6 : decode cJ0_length_8abf5 6 = .ok (.invokevirtual 335, 3) := by decide +kernel
theorem dJ0_length_8abf5_9 : decode cJ0_length_8abf5 9 = .ok (.ishr, 1) := by decide +kernel
theorem dJ0_length_8abf5_10 : decode cJ0_length_8abf5 10 = .ok (.ireturn, 1) := by decide +kernel
theorem dJ0_charAt_5068e_0 : decode cJ0_charAt_5068e 0 = .ok (.aload_n 0, 1) := by decide +kernel
theorem dJ0_charAt_5068e_1 : decode cJ0_charAt_5068e 1 = .ok (.invokevirtual 492, 3) := by decide +kernel
theorem dJ0_charAt_5068e_4 : decode cJ0_charAt_5068e 4 = .ok (.ifCond .eq 12, 3) := by decide +kernel
theorem dJ0_charAt_5068e_7 : decode cJ0_charAt_5068e 7 = .ok (.aload_n 0, 1) := by decide +kernel
theorem dJ0_charAt_5068e_8 : decode cJ0_charAt_5068e 8 = .ok (.getfield 9, 3) := by decide +kernel
theorem dJ0_charAt_5068e_11 : decode cJ0_charAt_5068e 11 = .ok (.iload_n 1, 1) := by decide +kernel
theorem dJ0_charAt_5068e_12 : decode cJ0_charAt_5068e 12 = .ok (.invokestatic 495, 3) := by decide +kernel
theorem dJ0_charAt_5068e_15 : decode cJ0_charAt_5068e 15 = .ok (.ireturn, 1) := by decide +kernel
theorem dJ0_charAt_5068e_16 : decode cJ0_charAt_5068e 16 = .ok (.aload_n 0, 1) := by decide +kernel
theorem dJ0_charAt_5068e_17 : decode cJ0_charAt_5068e 17 = .ok (.getfield 9, 3) := by decide +kernel
theorem dJ0_charAt_5068e_20 : decode cJ0_charAt_5068e 20 = .ok (.iload_n 1, 1) := by decide +kernel
theorem dJ0_charAt_5068e_21 : decode cJ0_charAt_5068e 21 = .ok (.invokestatic 498, 3) := by decide +kernel
theorem dJ0_charAt_5068e_24 : decode cJ0_charAt_5068e 24 = .ok (.ireturn, 1) := by decide +kernel
theorem dJ0_coder_7d493_0 : decode cJ0_coder_7d493 0 = .ok (.getstatic 38, 3) := by decide +kernel
theorem dJ0_coder_7d493_3 : decode cJ0_coder_7d493 3 = .ok (.ifCond .eq 10, 3) := by decide +kernel
theorem dJ0_coder_7d493_6 : decode cJ0_coder_7d493 6 = .ok (.aload_n 0, 1) := by decide +kernel
theorem dJ0_coder_7d493_7 : decode cJ0_coder_7d493 7 = .ok (.getfield 15, 3) := by decide +kernel
theorem dJ0_coder_7d493_10 : decode cJ0_coder_7d493 10 = .ok (.goto 4, 3) := by decide +kernel
theorem dJ0_coder_7d493_13 : decode cJ0_coder_7d493 13 = .ok (.iconst 1, 1) := by decide +kernel
theorem dJ0_coder_7d493_14 : decode cJ0_coder_7d493 14 = .ok (.ireturn, 1) := by decide +kernel
theorem dJ0_isLatin1_aae02_0 : decode cJ0_isLatin1_aae02 0 = .ok (.getstatic 38, 3) := by decide +kernel
theorem dJ0_isLatin1_aae02_3 : decode cJ0_isLatin1_aae02 3 = .ok (.ifCond .eq 14, 3) := by decide +kernel
theorem dJ0_isLatin1_aae02_6 : decode cJ0_isLatin1_aae02 6 = .ok (.aload_n 0, 1) := by decide +kernel
theorem dJ0_isLatin1_aae02_7 : decode cJ0_isLatin1_aae02 7 = .ok (.getfield 15, 3) := by decide +kernel
theorem dJ0_isLatin1_aae02_10 : decode cJ0_isLatin1_aae02 10 = .ok (.ifCond .ne 7, 3) := by decide +kernel
theorem dJ0_isLatin1_aae02_13 : decode cJ0_isLatin1_aae02 13 = .ok (.iconst 1, 1) := by decide +kernel
theorem dJ0_isLatin1_aae02_14 : decode cJ0_isLatin1_aae02 14 = .ok (.goto 4, 3) := by decide +kernel
theorem dJ0_isLatin1_aae02_17 : decode cJ0_isLatin1_aae02 17 = .ok (.iconst 0, 1) := by decide +kernel
theorem dJ0_isLatin1_aae02_18 : decode cJ0_isLatin1_aae02 18 = .ok (.ireturn, 1) := by decide +kernel
theorem dJ0_checkIndex_df160_0 : decode cJ0_checkIndex_df160 0 = .ok (.iload_n 0, 1) := by decide +kernel
theorem dJ0_checkIndex_df160_1 : decode cJ0_checkIndex_df160 1 = .ok (.iload_n 1, 1) := by decide +kernel
theorem dJ0_checkIndex_df160_2 : decode cJ0_checkIndex_df160 2 = .ok (.getstatic 1053, 3) := by decide +kernel
theorem dJ0_checkIndex_df160_5 : decode cJ0_checkIndex_df160 5 = .ok (.invokestatic 1059, 3) := by decide +kernel
theorem dJ0_checkIndex_df160_8 : decode cJ0_checkIndex_df160 8 = .ok (.pop, 1) := by decide +kernel
theorem dJ0_checkIndex_df160_9 : decode cJ0_checkIndex_df160 9 = .ok (.return_, 1) := by decide +kernel
theorem dJ1_charAt_3b067_0 : decode cJ1_charAt_3b067 0 = .ok (.iload_n 1, 1) := by decide +kernel
theorem dJ1_charAt_3b067_1 : decode cJ1_charAt_3b067 1 = .ok (.aload_n 0, 1) := by decide +kernel
theorem dJ1_charAt_3b067_2 : decode cJ1_charAt_3b067 2 = .ok (.arraylength, 1) := by decide +kernel
theorem dJ1_charAt_3b067_3 : decode cJ1_charAt_3b067 3 = .ok (.invokestatic 9, 3) := by decide +kernel
theorem dJ1_charAt_3b067_6 : decode cJ1_charAt_3b067 6 = .ok (.aload_n 0, 1) := by decide +kernel
theorem dJ1_charAt_3b067_7 : decode cJ1_charAt_3b067 7 = .ok (.iload_n 1, 1) := by decide +kernel
theorem dJ1_charAt_3b067_8 : decode cJ1_charAt_3b067 8 = .ok (.baload, 1) := by decide +kernel
theorem dJ1_charAt_3b067_9 : decode cJ1_charAt_3b067 9 = .ok (.sipush 255, 3) := by decide +kernel
theorem dJ1_charAt_3b067_12 : decode cJ1_charAt_3b067 12 = .ok (.iand, 1) := by decide +kernel
theorem dJ1_charAt_3b067_13 : decode cJ1_charAt_3b067 13 = .ok (.i2c, 1) := by decide +kernel
theorem dJ1_charAt_3b067_14 : decode cJ1_charAt_3b067 14 = .ok (.ireturn, 1) := by decide +kernel
theorem dJ2_getChar_3b067_0 : decode cJ2_getChar_3b067 0 = .ok (.getstatic 44, 3) := by decide +kernel
theorem dJ2_getChar_3b067_3 : decode cJ2_getChar_3b067 3 = .ok (.ifCond .ne 25, 3) := by decide +kernel
theorem dJ2_getChar_3b067_6 : decode cJ2_getChar_3b067 6 = .ok (.iload_n 1, 1) := by decide +kernel
theorem dJ2_getChar_3b067_7 : decode cJ2_getChar_3b067 7 = .ok (.ifCond .lt 11, 3) := by decide +kernel
theorem dJ2_getChar_3b067_10 : decode cJ2_getChar_3b067 10 = .ok (.iload_n 1, 1) := by decide +kernel
theorem dJ2_getChar_3b067_11 : decode cJ2_getChar_3b067 11 = .ok (.aload_n 0, 1) := by decide +kernel
theorem dJ2_getChar_3b067_12 : decode cJ2_getChar_3b067 12 = .ok (.invokestatic 48, 3) := by decide +kernel
theorem dJ2_getChar_3b067_15 : decode cJ2_getChar_3b067 15 = .ok (.if_icmp .lt 13, 3) := by decide +kernel
theorem dJ2_getChar_3b067_18 : decode cJ2_getChar_3b067 18 = .ok (.new 52, 3) := by decide +kernel
theorem dJ2_getChar_3b067_21 : decode cJ2_getChar_3b067 21 = .ok (.dup, 1) := by decide +kernel
theorem dJ2_getChar_3b067_22 : decode cJ2_getChar_3b067 22 = .ok (.ldc 54, 2) := by decide +kernel
theorem dJ2_getChar_3b067_24 : decode cJ2_getChar_3b067 24 = .ok (.invokespecial 56, 3) := by decide +kernel
theorem dJ2_getChar_3b067_27 : decode cJ2_getChar_3b067 27 = .ok (.athrow, 1) := by decide +kernel
theorem dJ2_getChar_3b067_28 : decode cJ2_getChar_3b067 28 = .ok (.iload_n 1, 1) := by decide +kernel
theorem dJ2_getChar_3b067_29 : decode cJ2_getChar_3b067 29 = .ok (.iconst 1, 1) := by decide +kernel
theorem dJ2_getChar_3b067_30 : decode cJ2_getChar_3b067 30 = .ok (.ishl, 1) := by decide +kernel
theorem dJ2_getChar_3b067_31 : decode cJ2_getChar_3b067 31 = .ok (.istore_n 1, 1) := by decide +kernel
theorem dJ2_getChar_3b067_32 : decode cJ2_getChar_3b067 32 = .ok (.aload_n 0, 1) := by decide +kernel
theorem dJ2_getChar_3b067_33 : decode cJ2_getChar_3b067 33 = .ok (.iload_n 1, 1) := by decide +kernel
theorem dJ2_getChar_3b067_34 : decode cJ2_getChar_3b067 34 = .ok (.iinc 1 1, 3) := by decide +kernel
theorem dJ2_getChar_3b067_37 : decode cJ2_getChar_3b067 37 = .ok (.baload, 1) := by decide +kernel
theorem dJ2_getChar_3b067_38 : decode cJ2_getChar_3b067 38 = .ok (.sipush 255, 3) := by decide +kernel
theorem dJ2_getChar_3b067_41 : decode cJ2_getChar_3b067 41 = .ok (.iand, 1) := by decide +kernel
theorem dJ2_getChar_3b067_42 : decode cJ2_getChar_3b067 42 = .ok (.getstatic 59, 3) := by decide +kernel
theorem dJ2_getChar_3b067_45 : decode cJ2_getChar_3b067 45 = .ok (.ishl, 1) := by decide +kernel
theorem dJ2_getChar_3b067_46 : decode cJ2_getChar_3b067 46 = .ok (.aload_n 0, 1) := by decide +kernel
theorem dJ2_getChar_3b067_47 : decode cJ2_getChar_3b067 47 = .ok (.iload_n 1, 1) := by decide +kernel
theorem dJ2_getChar_3b067_48 : decode cJ2_getChar_3b067 48 = .ok (.baload, 1) := by decide +kernel
theorem dJ2_getChar_3b067_49 : decode cJ2_getChar_3b067 49 = .ok (.sipush 255, 3) := by decide +kernel
theorem dJ2_getChar_3b067_52 : decode cJ2_getChar_3b067 52 = .ok (.iand, 1) := by decide +kernel
theorem dJ2_getChar_3b067_53 : decode cJ2_getChar_3b067 53 = .ok (.getstatic 63, 3) := by decide +kernel
theorem dJ2_getChar_3b067_56 : decode cJ2_getChar_3b067 56 = .ok (.ishl, 1) := by decide +kernel
theorem dJ2_getChar_3b067_57 : decode cJ2_getChar_3b067 57 = .ok (.ior, 1) := by decide +kernel
theorem dJ2_getChar_3b067_58 : decode cJ2_getChar_3b067 58 = .ok (.i2c, 1) := by decide +kernel
theorem dJ2_getChar_3b067_59 : decode cJ2_getChar_3b067 59 = .ok (.ireturn, 1) := by decide +kernel
theorem dJ2_length_9d52b_0 : decode cJ2_length_9d52b 0 = .ok (.aload_n 0, 1) := by decide +kernel
theorem dJ2_length_9d52b_1 : decode cJ2_length_9d52b 1 = .ok (.arraylength, 1) := by decide +kernel
theorem dJ2_length_9d52b_2 : decode cJ2_length_9d52b 2 = .ok (.iconst 1, 1) := by decide +kernel
theorem dJ2_length_9d52b_3 : decode cJ2_length_9d52b 3 = .ok (.ishr, 1) := by decide +kernel
theorem dJ2_length_9d52b_4 : decode cJ2_length_9d52b 4 = .ok (.ireturn, 1) := by decide +kernel
theorem dJ2_charAt_3b067_0 : decode cJ2_charAt_3b067 0 = .ok (.iload_n 1, 1) := by decide +kernel
theorem dJ2_charAt_3b067_1 : decode cJ2_charAt_3b067 1 = .ok (.aload_n 0, 1) := by decide +kernel
theorem dJ2_charAt_3b067_2 : decode cJ2_charAt_3b067 2 = .ok (.invokestatic 67, 3) := by decide +kernel
theorem dJ2_charAt_3b067_5 : decode cJ2_charAt_3b067 5 = .ok (.aload_n 0, 1) := by decide +kernel
theorem dJ2_charAt_3b067_6 : decode cJ2_charAt_3b067 6 = .ok (.iload_n 1, 1) := by decide +kernel
theorem dJ2_charAt_3b067_7 : decode cJ2_charAt_3b067 7 = .ok (.invokestatic 71, 3) := by decide +kernel
theorem dJ2_charAt_3b067_10 : decode cJ2_charAt_3b067 10 = .ok (.ireturn, 1) := by decide +kernel
theorem dJ2_checkIndex_2214a_0 : decode cJ2_checkIndex_2214a 0 = .ok (.iload_n 0, 1) := by decide +kernel
theorem dJ2_checkIndex_2214a_1 : decode cJ2_checkIndex_2214a 1 = .ok (.aload_n 1, 1) := by decide +kernel
theorem dJ2_checkIndex_2214a_2 : decode cJ2_checkIndex_2214a 2 = .ok (.invokestatic 48, 3) := by decide +kernel
theorem dJ2_checkIndex_2214a_5 : decode cJ2_checkIndex_2214a 5 = .ok (.invokestatic 414, 3) := by decide +kernel
theorem dJ2_checkIndex_2214a_8 : decode cJ2_checkIndex_2214a 8 = .ok (.return_, 1) := by decide +kernel
theorem dJ3_checkIndex_8e157_0 : decode cJ3_checkIndex_8e157 0 = .ok (.iload_n 0, 1) := by decide +kernel
theorem dJ3_checkIndex_8e157_1 : decode cJ3_checkIndex_8e157 1 = .ok (.ifCond .lt 8, 3) := by decide +kernel
theorem dJ3_checkIndex_8e157_4 : decode cJ3_checkIndex_8e157 4 = .ok (.iload_n 0, 1) := by decide +kernel
theorem dJ3_checkIndex_8e157_5 : decode cJ3_checkIndex_8e157 5 = .ok (.iload_n 1, 1) := by decide +kernel
theorem dJ3_checkIndex_8e157_6 : decode cJ3_checkIndex_8e157 6 = .ok (.if_icmp .lt 10, 3) := by decide +kernel
theorem dJ3_checkIndex_8e157_9 : decode cJ3_checkIndex_8e157 9 = .ok (.aload_n 2, 1) := by decide +kernel
theorem dJ3_checkIndex_8e157_10 : decode cJ3_checkIndex_8e157 10 = .ok (.iload_n 0, 1) := by decide +kernel
theorem dJ3_checkIndex_8e157_11 : decode cJ3_checkIndex_8e157 11 = .ok (.iload_n 1, 1) := by decide +kernel
theorem dJ3_checkIndex_8e157_12 : decode cJ3_checkIndex_8e157 12 = .ok (.invokestatic 95, 3) := by decide +kernel
theorem dJ3_checkIndex_8e157_15 : decode cJ3_checkIndex_8e157 15 = .ok (.athrow, 1) := by decide +kernel
theorem dJ3_checkIndex_8e157_16 : decode cJ3_checkIndex_8e157 16 = .ok (.iload_n 0, 1) := by decide +kernel
theorem dJ3_checkIndex_8e157_17 : decode cJ3_checkIndex_8e157 17 = .ok (.ireturn, 1) := by decide +kernel
