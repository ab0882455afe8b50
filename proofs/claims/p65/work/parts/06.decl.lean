theorem dL_pick_0 : decode cL_pick 0 = .ok (.aload_n 0, 1) := by decide +kernel
theorem dL_pick_1 : decode cL_pick 1 = .ok (.arraylength, 1) := by decide +kernel
theorem dL_pick_2 : decode cL_pick 2 = .ok (.ifCond .ne 9, 3) := by decide +kernel
theorem dL_pick_5 : decode cL_pick 5 = .ok (.iload_n 1, 1) := by decide +kernel
theorem dL_pick_6 : decode cL_pick 6 = .ok (.iload_n 2, 1) := by decide +kernel
theorem dL_pick_7 : decode cL_pick 7 = .ok (.irem, 1) := by decide +kernel
theorem dL_pick_8 : decode cL_pick 8 = .ok (.goto 25, 3) := by decide +kernel
theorem dL_pick_11 : decode cL_pick 11 = .ok (.aload_n 0, 1) := by decide +kernel
theorem dL_pick_12 : decode cL_pick 12 = .ok (.iload_n 1, 1) := by decide +kernel
theorem dL_pick_13 : decode cL_pick 13 = .ok (.aload_n 0, 1) := by decide +kernel
theorem dL_pick_14 : decode cL_pick 14 = .ok (.arraylength, 1) := by decide +kernel
theorem dL_pick_15 : decode cL_pick 15 = .ok (.irem, 1) := by decide +kernel
theorem dL_pick_16 : decode cL_pick 16 = .ok (.iaload, 1) := by decide +kernel
theorem dL_pick_17 : decode cL_pick 17 = .ok (.iload_n 1, 1) := by decide +kernel
theorem dL_pick_18 : decode cL_pick 18 = .ok (.aload_n 0, 1) := by decide +kernel
theorem dL_pick_19 : decode cL_pick 19 = .ok (.arraylength, 1) := by decide +kernel
theorem dL_pick_20 : decode cL_pick 20 = .ok (.idiv, 1) := by decide +kernel
theorem dL_pick_21 : decode cL_pick 21 = .ok (.bipush 9, 2) := by decide +kernel
theorem dL_pick_23 : decode cL_pick 23 = .ok (.irem, 1) := by decide +kernel
theorem dL_pick_24 : decode cL_pick 24 = .ok (.iconst 3, 1) := by decide +kernel
theorem dL_pick_25 : decode cL_pick 25 = .ok (.imul, 1) := by decide +kernel
theorem dL_pick_26 : decode cL_pick 26 = .ok (.ishr, 1) := by decide +kernel
theorem dL_pick_27 : decode cL_pick 27 = .ok (.sipush 4095, 3) := by decide +kernel
theorem dL_pick_30 : decode cL_pick 30 = .ok (.iand, 1) := by decide +kernel
theorem dL_pick_31 : decode cL_pick 31 = .ok (.iload_n 2, 1) := by decide +kernel
theorem dL_pick_32 : decode cL_pick 32 = .ok (.irem, 1) := by decide +kernel
theorem dL_pick_33 : decode cL_pick 33 = .ok (.ireturn, 1) := by decide +kernel
theorem dL_launch_0 : decode cL_launch 0 = .ok (.aload_n 0, 1) := by decide +kernel
theorem dL_launch_1 : decode cL_launch 1 = .ok (.iload_n 1, 1) := by decide +kernel
theorem dL_launch_2 : decode cL_launch 2 = .ok (.invokevirtual 7, 3) := by decide +kernel
theorem dL_launch_5 : decode cL_launch 5 = .ok (.ireturn, 1) := by decide +kernel
theorem dL_launch_6 : decode cL_launch 6 = .ok (.astore_n 2, 1) := by decide +kernel
theorem dL_launch_7 : decode cL_launch 7 = .ok (.iconst (-1), 1) := by decide +kernel
theorem dL_launch_8 : decode cL_launch 8 = .ok (.ireturn, 1) := by decide +kernel
theorem dL_land_0 : decode cL_land 0 = .ok (.aload_n 0, 1) := by decide +kernel
theorem dL_land_1 : decode cL_land 1 = .ok (.iload_n 1, 1) := by decide +kernel
theorem dL_land_2 : decode cL_land 2 = .ok (.invokevirtual 15, 3) := by decide +kernel
theorem dL_land_5 : decode cL_land 5 = .ok (.ireturn, 1) := by decide +kernel
theorem dL_land_6 : decode cL_land 6 = .ok (.astore_n 2, 1) := by decide +kernel
theorem dL_land_7 : decode cL_land 7 = .ok (.iconst (-1), 1) := by decide +kernel
theorem dL_land_8 : decode cL_land 8 = .ok (.ireturn, 1) := by decide +kernel
theorem dL_permit_0 : decode cL_permit 0 = .ok (.aload_n 0, 1) := by decide +kernel
theorem dL_permit_1 : decode cL_permit 1 = .ok (.iload_n 1, 1) := by decide +kernel
theorem dL_permit_2 : decode cL_permit 2 = .ok (.iload_n 2, 1) := by decide +kernel
theorem dL_permit_3 : decode cL_permit 3 = .ok (.iload_n 3, 1) := by decide +kernel
theorem dL_permit_4 : decode cL_permit 4 = .ok (.invokevirtual 18, 3) := by decide +kernel
theorem dL_permit_7 : decode cL_permit 7 = .ok (.ireturn, 1) := by decide +kernel
theorem dL_permit_8 : decode cL_permit 8 = .ok (.astore 4, 2) := by decide +kernel
theorem dL_permit_10 : decode cL_permit 10 = .ok (.iconst (-1), 1) := by decide +kernel
theorem dL_permit_11 : decode cL_permit 11 = .ok (.ireturn, 1) := by decide +kernel
theorem dL_tie_0 : decode cL_tie 0 = .ok (.aload_n 0, 1) := by decide +kernel
theorem dL_tie_1 : decode cL_tie 1 = .ok (.iload_n 1, 1) := by decide +kernel
theorem dL_tie_2 : decode cL_tie 2 = .ok (.iload_n 2, 1) := by decide +kernel
theorem dL_tie_3 : decode cL_tie 3 = .ok (.invokevirtual 22, 3) := by decide +kernel
theorem dL_tie_6 : decode cL_tie 6 = .ok (.ireturn, 1) := by decide +kernel
theorem dL_tie_7 : decode cL_tie 7 = .ok (.astore_n 3, 1) := by decide +kernel
theorem dL_tie_8 : decode cL_tie 8 = .ok (.iconst (-1), 1) := by decide +kernel
theorem dL_tie_9 : decode cL_tie 9 = .ok (.ireturn, 1) := by decide +kernel
theorem dL_repair_0 : decode cL_repair 0 = .ok (.aload_n 0, 1) := by decide +kernel
theorem dL_repair_1 : decode cL_repair 1 = .ok (.iload_n 1, 1) := by decide +kernel
theorem dL_repair_2 : decode cL_repair 2 = .ok (.invokevirtual 26, 3) := by decide +kernel
theorem dL_repair_5 : decode cL_repair 5 = .ok (.ireturn, 1) := by decide +kernel
theorem dL_repair_6 : decode cL_repair 6 = .ok (.astore_n 2, 1) := by decide +kernel
theorem dL_repair_7 : decode cL_repair 7 = .ok (.iconst (-1), 1) := by decide +kernel
theorem dL_repair_8 : decode cL_repair 8 = .ok (.ireturn, 1) := by decide +kernel
theorem dL_add_0 : decode cL_add 0 = .ok (.aload_n 0, 1) := by decide +kernel
theorem dL_add_1 : decode cL_add 1 = .ok (.aload_n 2, 1) := by decide +kernel
theorem dL_add_2 : decode cL_add 2 = .ok (.iload_n 1, 1) := by decide +kernel
theorem dL_add_3 : decode cL_add 3 = .ok (.bipush 40, 2) := by decide +kernel
theorem dL_add_5 : decode cL_add 5 = .ok (.invokestatic 29, 3) := by decide +kernel
theorem dL_add_8 : decode cL_add 8 = .ok (.aload_n 2, 1) := by decide +kernel
theorem dL_add_9 : decode cL_add 9 = .ok (.iload_n 1, 1) := by decide +kernel
theorem dL_add_10 : decode cL_add 10 = .ok (.iconst 1, 1) := by decide +kernel
theorem dL_add_11 : decode cL_add 11 = .ok (.iadd, 1) := by decide +kernel
theorem dL_add_12 : decode cL_add 12 = .ok (.bipush 30, 2) := by decide +kernel
theorem dL_add_14 : decode cL_add 14 = .ok (.invokestatic 29, 3) := by decide +kernel
theorem dL_add_17 : decode cL_add 17 = .ok (.iconst 1, 1) := by decide +kernel
theorem dL_add_18 : decode cL_add 18 = .ok (.aload_n 2, 1) := by decide +kernel
theorem dL_add_19 : decode cL_add 19 = .ok (.iload_n 1, 1) := by decide +kernel
theorem dL_add_20 : decode cL_add 20 = .ok (.iconst 2, 1) := by decide +kernel
theorem dL_add_21 : decode cL_add 21 = .ok (.iadd, 1) := by decide +kernel
theorem dL_add_22 : decode cL_add 22 = .ok (.bipush 30, 2) := by decide +kernel
theorem dL_add_24 : decode cL_add 24 = .ok (.invokestatic 29, 3) := by decide +kernel
theorem dL_add_27 : decode cL_add 27 = .ok (.iadd, 1) := by decide +kernel
theorem dL_add_28 : decode cL_add 28 = .ok (.aload_n 2, 1) := by decide +kernel
theorem dL_add_29 : decode cL_add 29 = .ok (.iload_n 1, 1) := by decide +kernel
theorem dL_add_30 : decode cL_add 30 = .ok (.iconst 3, 1) := by decide +kernel
theorem dL_add_31 : decode cL_add 31 = .ok (.iadd, 1) := by decide +kernel
theorem dL_add_32 : decode cL_add 32 = .ok (.iconst 2, 1) := by decide +kernel
theorem dL_add_33 : decode cL_add 33 = .ok (.invokestatic 29, 3) := by decide +kernel
theorem dL_add_36 : decode cL_add 36 = .ok (.aload_n 2, 1) := by decide +kernel
theorem dL_add_37 : decode cL_add 37 = .ok (.iload_n 1, 1) := by decide +kernel
theorem dL_add_38 : decode cL_add 38 = .ok (.iconst 4, 1) := by decide +kernel
theorem dL_add_39 : decode cL_add 39 = .ok (.iadd, 1) := by decide +kernel
theorem dL_add_40 : decode cL_add 40 = .ok (.iconst 4, 1) := by decide +kernel
theorem dL_add_41 : decode cL_add 41 = .ok (.invokestatic 29, 3) := by decide +kernel
theorem dL_add_44 : decode cL_add 44 = .ok (.aload_n 2, 1) := by decide +kernel
theorem dL_add_45 : decode cL_add 45 = .ok (.iload_n 1, 1) := by decide +kernel
theorem dL_add_46 : decode cL_add 46 = .ok (.iconst 5, 1) := by decide +kernel
theorem dL_add_47 : decode cL_add 47 = .ok (.iadd, 1) := by decide +kernel
theorem dL_add_48 : decode cL_add 48 = .ok (.bipush 90, 2) := by decide +kernel
theorem dL_add_50 : decode cL_add 50 = .ok (.invokestatic 29, 3) := by decide +kernel
theorem dL_add_53 : decode cL_add 53 = .ok (.invokevirtual 35, 3) := by decide +kernel
theorem dL_add_56 : decode cL_add 56 = .ok (.ireturn, 1) := by decide +kernel
theorem dL_add_57 : decode cL_add 57 = .ok (.astore_n 3, 1) := by decide +kernel
theorem dL_add_58 : decode cL_add 58 = .ok (.iconst (-1), 1) := by decide +kernel
theorem dL_add_59 : decode cL_add 59 = .ok (.ireturn, 1) := by decide +kernel
theorem dL_whole_0 : decode cL_whole 0 = .ok (.aload_n 0, 1) := by decide +kernel
theorem dL_whole_1 : decode cL_whole 1 = .ok (.invokevirtual 39, 3) := by decide +kernel
theorem dL_whole_4 : decode cL_whole 4 = .ok (.istore_n 1, 1) := by decide +kernel
theorem dL_whole_5 : decode cL_whole 5 = .ok (.aload_n 0, 1) := by decide +kernel
theorem dL_whole_6 : decode cL_whole 6 = .ok (.invokevirtual 43, 3) := by decide +kernel
theorem dL_whole_9 : decode cL_whole 9 = .ok (.istore_n 2, 1) := by decide +kernel
theorem dL_whole_10 : decode cL_whole 10 = .ok (.iconst 0, 1) := by decide +kernel
theorem dL_whole_11 : decode cL_whole 11 = .ok (.istore_n 3, 1) := by decide +kernel
theorem dL_whole_12 : decode cL_whole 12 = .ok (.iload_n 3, 1) := by decide +kernel
theorem dL_whole_13 : decode cL_whole 13 = .ok (.iload_n 2, 1) := by decide +kernel
theorem dL_whole_14 : decode cL_whole 14 = .ok (.if_icmp .ge 213, 3) := by decide +kernel
theorem dL_whole_17 : decode cL_whole 17 = .ok (.aload_n 0, 1) := by decide +kernel
theorem dL_whole_18 : decode cL_whole 18 = .ok (.iload_n 3, 1) := by decide +kernel
theorem dL_whole_19 : decode cL_whole 19 = .ok (.invokevirtual 46, 3) := by decide +kernel
theorem dL_whole_22 : decode cL_whole 22 = .ok (.istore 4, 2) := by decide +kernel
theorem dL_whole_24 : decode cL_whole 24 = .ok (.aload_n 0, 1) := by decide +kernel
theorem dL_whole_25 : decode cL_whole 25 = .ok (.iload_n 3, 1) := by decide +kernel
theorem dL_whole_26 : decode cL_whole 26 = .ok (.invokevirtual 49, 3) := by decide +kernel
theorem dL_whole_29 : decode cL_whole 29 = .ok (.istore 5, 2) := by decide +kernel
theorem dL_whole_31 : decode cL_whole 31 = .ok (.aload_n 0, 1) := by decide +kernel
theorem dL_whole_32 : decode cL_whole 32 = .ok (.iload_n 3, 1) := by decide +kernel
theorem dL_whole_33 : decode cL_whole 33 = .ok (.invokevirtual 52, 3) := by decide +kernel
theorem dL_whole_36 : decode cL_whole 36 = .ok (.istore 6, 2) := by decide +kernel
theorem dL_whole_38 : decode cL_whole 38 = .ok (.iload 5, 2) := by decide +kernel
theorem dL_whole_40 : decode cL_whole 40 = .ok (.iload 6, 2) := by decide +kernel
theorem dL_whole_42 : decode cL_whole 42 = .ok (.iadd, 1) := by decide +kernel
theorem dL_whole_43 : decode cL_whole 43 = .ok (.iload_n 1, 1) := by decide +kernel
theorem dL_whole_44 : decode cL_whole 44 = .ok (.if_icmp .le 16, 3) := by decide +kernel
theorem dL_whole_47 : decode cL_whole 47 = .ok (.iload 6, 2) := by decide +kernel
theorem dL_whole_49 : decode cL_whole 49 = .ok (.iconst 1, 1) := by decide +kernel
theorem dL_whole_50 : decode cL_whole 50 = .ok (.if_icmp .lt 10, 3) := by decide +kernel
theorem dL_whole_53 : decode cL_whole 53 = .ok (.iload 6, 2) := by decide +kernel
theorem dL_whole_55 : decode cL_whole 55 = .ok (.bipush 24, 2) := by decide +kernel
theorem dL_whole_57 : decode cL_whole 57 = .ok (.if_icmp .le 5, 3) := by decide +kernel
theorem dL_whole_60 : decode cL_whole 60 = .ok (.iconst 0, 1) := by decide +kernel
theorem dL_whole_61 : decode cL_whole 61 = .ok (.ireturn, 1) := by decide +kernel
theorem dL_whole_62 : decode cL_whole 62 = .ok (.iload_n 1, 1) := by decide +kernel
theorem dL_whole_63 : decode cL_whole 63 = .ok (.iload 5, 2) := by decide +kernel
theorem dL_whole_65 : decode cL_whole 65 = .ok (.invokestatic 55, 3) := by decide +kernel
theorem dL_whole_68 : decode cL_whole 68 = .ok (.istore 7, 2) := by decide +kernel
theorem dL_whole_70 : decode cL_whole 70 = .ok (.iload 7, 2) := by decide +kernel
theorem dL_whole_72 : decode cL_whole 72 = .ok (.iload 5, 2) := by decide +kernel
theorem dL_whole_74 : decode cL_whole 74 = .ok (.iload 6, 2) := by decide +kernel
theorem dL_whole_76 : decode cL_whole 76 = .ok (.iadd, 1) := by decide +kernel
theorem dL_whole_77 : decode cL_whole 77 = .ok (.if_icmp .ge 144, 3) := by decide +kernel
theorem dL_whole_80 : decode cL_whole 80 = .ok (.aload_n 0, 1) := by decide +kernel
theorem dL_whole_81 : decode cL_whole 81 = .ok (.iload 4, 2) := by decide +kernel
theorem dL_whole_83 : decode cL_whole 83 = .ok (.iload 7, 2) := by decide +kernel
theorem dL_whole_85 : decode cL_whole 85 = .ok (.invokevirtual 60, 3) := by decide +kernel
theorem dL_whole_88 : decode cL_whole 88 = .ok (.ifCond .eq 39, 3) := by decide +kernel
theorem dL_whole_91 : decode cL_whole 91 = .ok (.aload_n 0, 1) := by decide +kernel
theorem dL_whole_92 : decode cL_whole 92 = .ok (.iload 4, 2) := by decide +kernel
theorem dL_whole_94 : decode cL_whole 94 = .ok (.iload 7, 2) := by decide +kernel
theorem dL_whole_96 : decode cL_whole 96 = .ok (.invokevirtual 64, 3) := by decide +kernel
theorem dL_whole_99 : decode cL_whole 99 = .ok (.ifCond .eq 28, 3) := by decide +kernel
theorem dL_whole_102 : decode cL_whole 102 = .ok (.aload_n 0, 1) := by decide +kernel
theorem dL_whole_103 : decode cL_whole 103 = .ok (.aload_n 0, 1) := by decide +kernel
theorem dL_whole_104 : decode cL_whole 104 = .ok (.iload 4, 2) := by decide +kernel
theorem dL_whole_106 : decode cL_whole 106 = .ok (.invokevirtual 67, 3) := by decide +kernel
theorem dL_whole_109 : decode cL_whole 109 = .ok (.iload 7, 2) := by decide +kernel
theorem dL_whole_111 : decode cL_whole 111 = .ok (.invokevirtual 70, 3) := by decide +kernel
theorem dL_whole_114 : decode cL_whole 114 = .ok (.aload_n 0, 1) := by decide +kernel
theorem dL_whole_115 : decode cL_whole 115 = .ok (.aload_n 0, 1) := by decide +kernel
theorem dL_whole_116 : decode cL_whole 116 = .ok (.iload 4, 2) := by decide +kernel
theorem dL_whole_118 : decode cL_whole 118 = .ok (.invokevirtual 67, 3) := by decide +kernel
theorem dL_whole_121 : decode cL_whole 121 = .ok (.invokevirtual 73, 3) := by decide +kernel
theorem dL_whole_124 : decode cL_whole 124 = .ok (.if_icmp .le 5, 3) := by decide +kernel
theorem dL_whole_127 : decode cL_whole 127 = .ok (.iconst 0, 1) := by decide +kernel
theorem dL_whole_128 : decode cL_whole 128 = .ok (.ireturn, 1) := by decide +kernel
theorem dL_whole_129 : decode cL_whole 129 = .ok (.iconst 0, 1) := by decide +kernel
theorem dL_whole_130 : decode cL_whole 130 = .ok (.istore 8, 2) := by decide +kernel
theorem dL_whole_132 : decode cL_whole 132 = .ok (.iload 8, 2) := by decide +kernel
theorem dL_whole_134 : decode cL_whole 134 = .ok (.iload_n 3, 1) := by decide +kernel
theorem dL_whole_135 : decode cL_whole 135 = .ok (.if_icmp .ge 80, 3) := by decide +kernel
theorem dL_whole_138 : decode cL_whole 138 = .ok (.aload_n 0, 1) := by decide +kernel
theorem dL_whole_139 : decode cL_whole 139 = .ok (.iload 8, 2) := by decide +kernel
theorem dL_whole_141 : decode cL_whole 141 = .ok (.invokevirtual 46, 3) := by decide +kernel
theorem dL_whole_144 : decode cL_whole 144 = .ok (.istore 9, 2) := by decide +kernel
theorem dL_whole_146 : decode cL_whole 146 = .ok (.iload 7, 2) := by decide +kernel
theorem dL_whole_148 : decode cL_whole 148 = .ok (.aload_n 0, 1) := by decide +kernel
theorem dL_whole_149 : decode cL_whole 149 = .ok (.iload 8, 2) := by decide +kernel
theorem dL_whole_151 : decode cL_whole 151 = .ok (.invokevirtual 49, 3) := by decide +kernel
theorem dL_whole_154 : decode cL_whole 154 = .ok (.if_icmp .lt 25, 3) := by decide +kernel
theorem dL_whole_157 : decode cL_whole 157 = .ok (.iload 7, 2) := by decide +kernel
theorem dL_whole_159 : decode cL_whole 159 = .ok (.aload_n 0, 1) := by decide +kernel
theorem dL_whole_160 : decode cL_whole 160 = .ok (.iload 8, 2) := by decide +kernel
theorem dL_whole_162 : decode cL_whole 162 = .ok (.invokevirtual 49, 3) := by decide +kernel
theorem dL_whole_165 : decode cL_whole 165 = .ok (.aload_n 0, 1) := by decide +kernel
theorem dL_whole_166 : decode cL_whole 166 = .ok (.iload 8, 2) := by decide +kernel
theorem dL_whole_168 : decode cL_whole 168 = .ok (.invokevirtual 52, 3) := by decide +kernel
theorem dL_whole_171 : decode cL_whole 171 = .ok (.iadd, 1) := by decide +kernel
theorem dL_whole_172 : decode cL_whole 172 = .ok (.if_icmp .ge 7, 3) := by decide +kernel
theorem dL_whole_175 : decode cL_whole 175 = .ok (.iconst 1, 1) := by decide +kernel
theorem dL_whole_176 : decode cL_whole 176 = .ok (.goto 4, 3) := by decide +kernel
theorem dL_whole_179 : decode cL_whole 179 = .ok (.iconst 0, 1) := by decide +kernel
theorem dL_whole_180 : decode cL_whole 180 = .ok (.istore 10, 2) := by decide +kernel
theorem dL_whole_182 : decode cL_whole 182 = .ok (.iload 10, 2) := by decide +kernel
theorem dL_whole_184 : decode cL_whole 184 = .ok (.ifCond .eq 25, 3) := by decide +kernel
theorem dL_whole_187 : decode cL_whole 187 = .ok (.iload 9, 2) := by decide +kernel
theorem dL_whole_189 : decode cL_whole 189 = .ok (.iload 4, 2) := by decide +kernel
theorem dL_whole_191 : decode cL_whole 191 = .ok (.if_icmp .eq 16, 3) := by decide +kernel
theorem dL_whole_194 : decode cL_whole 194 = .ok (.aload_n 0, 1) := by decide +kernel
theorem dL_whole_195 : decode cL_whole 195 = .ok (.iload 4, 2) := by decide +kernel
theorem dL_whole_197 : decode cL_whole 197 = .ok (.iload 9, 2) := by decide +kernel
theorem dL_whole_199 : decode cL_whole 199 = .ok (.iload 7, 2) := by decide +kernel
theorem dL_whole_201 : decode cL_whole 201 = .ok (.invokevirtual 76, 3) := by decide +kernel
theorem dL_whole_204 : decode cL_whole 204 = .ok (.ifCond .eq 5, 3) := by decide +kernel
theorem dL_whole_207 : decode cL_whole 207 = .ok (.iconst 0, 1) := by decide +kernel
theorem dL_whole_208 : decode cL_whole 208 = .ok (.ireturn, 1) := by decide +kernel
theorem dL_whole_209 : decode cL_whole 209 = .ok (.iinc 8 1, 3) := by decide +kernel
theorem dL_whole_212 : decode cL_whole 212 = .ok (.goto (-80), 3) := by decide +kernel
theorem dL_whole_215 : decode cL_whole 215 = .ok (.iinc 7 1, 3) := by decide +kernel
theorem dL_whole_218 : decode cL_whole 218 = .ok (.goto (-148), 3) := by decide +kernel
theorem dL_whole_221 : decode cL_whole 221 = .ok (.iinc 3 1, 3) := by decide +kernel
theorem dL_whole_224 : decode cL_whole 224 = .ok (.goto (-212), 3) := by decide +kernel
theorem dL_whole_227 : decode cL_whole 227 = .ok (.iconst 0, 1) := by decide +kernel
theorem dL_whole_228 : decode cL_whole 228 = .ok (.istore_n 3, 1) := by decide +kernel
theorem dL_whole_229 : decode cL_whole 229 = .ok (.iload_n 3, 1) := by decide +kernel
theorem dL_whole_230 : decode cL_whole 230 = .ok (.aload_n 0, 1) := by decide +kernel
theorem dL_whole_231 : decode cL_whole 231 = .ok (.invokevirtual 80, 3) := by decide +kernel
theorem dL_whole_234 : decode cL_whole 234 = .ok (.if_icmp .ge 54, 3) := by decide +kernel
theorem dL_whole_237 : decode cL_whole 237 = .ok (.aload_n 0, 1) := by decide +kernel
theorem dL_whole_238 : decode cL_whole 238 = .ok (.iload_n 3, 1) := by decide +kernel
theorem dL_whole_239 : decode cL_whole 239 = .ok (.invokevirtual 83, 3) := by decide +kernel
theorem dL_whole_242 : decode cL_whole 242 = .ok (.ifCond .lt 38, 3) := by decide +kernel
theorem dL_whole_245 : decode cL_whole 245 = .ok (.aload_n 0, 1) := by decide +kernel
theorem dL_whole_246 : decode cL_whole 246 = .ok (.iload_n 3, 1) := by decide +kernel
theorem dL_whole_247 : decode cL_whole 247 = .ok (.invokevirtual 86, 3) := by decide +kernel
theorem dL_whole_250 : decode cL_whole 250 = .ok (.iconst 1, 1) := by decide +kernel
theorem dL_whole_251 : decode cL_whole 251 = .ok (.if_icmp .ne 12, 3) := by decide +kernel
theorem dL_whole_254 : decode cL_whole 254 = .ok (.aload_n 0, 1) := by decide +kernel
theorem dL_whole_255 : decode cL_whole 255 = .ok (.iload_n 3, 1) := by decide +kernel
theorem dL_whole_256 : decode cL_whole 256 = .ok (.iload_n 1, 1) := by decide +kernel
theorem dL_whole_257 : decode cL_whole 257 = .ok (.invokevirtual 64, 3) := by decide +kernel
theorem dL_whole_260 : decode cL_whole 260 = .ok (.ifCond .eq 20, 3) := by decide +kernel
theorem dL_whole_263 : decode cL_whole 263 = .ok (.aload_n 0, 1) := by decide +kernel
theorem dL_whole_264 : decode cL_whole 264 = .ok (.iload_n 3, 1) := by decide +kernel
theorem dL_whole_265 : decode cL_whole 265 = .ok (.invokevirtual 86, 3) := by decide +kernel
theorem dL_whole_268 : decode cL_whole 268 = .ok (.iconst 2, 1) := by decide +kernel
theorem dL_whole_269 : decode cL_whole 269 = .ok (.if_icmp .ne 13, 3) := by decide +kernel
theorem dL_whole_272 : decode cL_whole 272 = .ok (.aload_n 0, 1) := by decide +kernel
theorem dL_whole_273 : decode cL_whole 273 = .ok (.iload_n 3, 1) := by decide +kernel
theorem dL_whole_274 : decode cL_whole 274 = .ok (.invokevirtual 89, 3) := by decide +kernel
theorem dL_whole_277 : decode cL_whole 277 = .ok (.ifCond .ne 5, 3) := by decide +kernel
theorem dL_whole_280 : decode cL_whole 280 = .ok (.iconst 0, 1) := by decide +kernel
theorem dL_whole_281 : decode cL_whole 281 = .ok (.ireturn, 1) := by decide +kernel
theorem dL_whole_282 : decode cL_whole 282 = .ok (.iinc 3 1, 3) := by decide +kernel
theorem dL_whole_285 : decode cL_whole 285 = .ok (.goto (-56), 3) := by decide +kernel
theorem dL_whole_288 : decode cL_whole 288 = .ok (.aload_n 0, 1) := by decide +kernel
theorem dL_whole_289 : decode cL_whole 289 = .ok (.invokevirtual 92, 3) := by decide +kernel
theorem dL_whole_292 : decode cL_whole 292 = .ok (.ifCond .ne 14, 3) := by decide +kernel
theorem dL_whole_295 : decode cL_whole 295 = .ok (.aload_n 0, 1) := by decide +kernel
theorem dL_whole_296 : decode cL_whole 296 = .ok (.invokevirtual 95, 3) := by decide +kernel
theorem dL_whole_299 : decode cL_whole 299 = .ok (.ifCond .ne 7, 3) := by decide +kernel
theorem dL_whole_302 : decode cL_whole 302 = .ok (.iconst 1, 1) := by decide +kernel
theorem dL_whole_303 : decode cL_whole 303 = .ok (.goto 4, 3) := by decide +kernel
theorem dL_whole_306 : decode cL_whole 306 = .ok (.iconst 0, 1) := by decide +kernel
theorem dL_whole_307 : decode cL_whole 307 = .ok (.ireturn, 1) := by decide +kernel
theorem dL_grants_0 : decode cL_grants 0 = .ok (.aload_n 0, 1) := by decide +kernel
theorem dL_grants_1 : decode cL_grants 1 = .ok (.iload_n 1, 1) := by decide +kernel
theorem dL_grants_2 : decode cL_grants 2 = .ok (.iload_n 2, 1) := by decide +kernel
theorem dL_grants_3 : decode cL_grants 3 = .ok (.iload_n 3, 1) := by decide +kernel
theorem dL_grants_4 : decode cL_grants 4 = .ok (.invokevirtual 98, 3) := by decide +kernel
theorem dL_grants_7 : decode cL_grants 7 = .ok (.istore 4, 2) := by decide +kernel
theorem dL_grants_9 : decode cL_grants 9 = .ok (.aload_n 0, 1) := by decide +kernel
theorem dL_grants_10 : decode cL_grants 10 = .ok (.invokevirtual 43, 3) := by decide +kernel
theorem dL_grants_13 : decode cL_grants 13 = .ok (.istore 5, 2) := by decide +kernel
theorem dL_grants_15 : decode cL_grants 15 = .ok (.aload_n 0, 1) := by decide +kernel
theorem dL_grants_16 : decode cL_grants 16 = .ok (.iload_n 1, 1) := by decide +kernel
theorem dL_grants_17 : decode cL_grants 17 = .ok (.invokevirtual 83, 3) := by decide +kernel
theorem dL_grants_20 : decode cL_grants 20 = .ok (.istore 6, 2) := by decide +kernel
theorem dL_grants_22 : decode cL_grants 22 = .ok (.aload_n 0, 1) := by decide +kernel
theorem dL_grants_23 : decode cL_grants 23 = .ok (.invokevirtual 101, 3) := by decide +kernel
theorem dL_grants_26 : decode cL_grants 26 = .ok (.istore 7, 2) := by decide +kernel
theorem dL_grants_28 : decode cL_grants 28 = .ok (.aload_n 0, 1) := by decide +kernel
theorem dL_grants_29 : decode cL_grants 29 = .ok (.iload_n 1, 1) := by decide +kernel
theorem dL_grants_30 : decode cL_grants 30 = .ok (.iload_n 2, 1) := by decide +kernel
theorem dL_grants_31 : decode cL_grants 31 = .ok (.iload_n 3, 1) := by decide +kernel
theorem dL_grants_32 : decode cL_grants 32 = .ok (.invokevirtual 104, 3) := by decide +kernel
theorem dL_grants_35 : decode cL_grants 35 = .ok (.istore 8, 2) := by decide +kernel
theorem dL_grants_37 : decode cL_grants 37 = .ok (.aload_n 0, 1) := by decide +kernel
theorem dL_grants_38 : decode cL_grants 38 = .ok (.iload_n 1, 1) := by decide +kernel
theorem dL_grants_39 : decode cL_grants 39 = .ok (.iload_n 2, 1) := by decide +kernel
theorem dL_grants_40 : decode cL_grants 40 = .ok (.iload_n 3, 1) := by decide +kernel
theorem dL_grants_41 : decode cL_grants 41 = .ok (.invokestatic 107, 3) := by decide +kernel
theorem dL_grants_44 : decode cL_grants 44 = .ok (.istore 9, 2) := by decide +kernel
theorem dL_grants_46 : decode cL_grants 46 = .ok (.iload 4, 2) := by decide +kernel
theorem dL_grants_48 : decode cL_grants 48 = .ok (.ifCond .ne 7, 3) := by decide +kernel
theorem dL_grants_51 : decode cL_grants 51 = .ok (.iconst 1, 1) := by decide +kernel
theorem dL_grants_52 : decode cL_grants 52 = .ok (.goto 4, 3) := by decide +kernel
theorem dL_grants_55 : decode cL_grants 55 = .ok (.iconst 0, 1) := by decide +kernel
theorem dL_grants_56 : decode cL_grants 56 = .ok (.iload 9, 2) := by decide +kernel
theorem dL_grants_58 : decode cL_grants 58 = .ok (.ifCond .lt 7, 3) := by decide +kernel
theorem dL_grants_61 : decode cL_grants 61 = .ok (.iconst 1, 1) := by decide +kernel
theorem dL_grants_62 : decode cL_grants 62 = .ok (.goto 4, 3) := by decide +kernel
theorem dL_grants_65 : decode cL_grants 65 = .ok (.iconst 0, 1) := by decide +kernel
theorem dL_grants_66 : decode cL_grants 66 = .ok (.if_icmp .ne 25, 3) := by decide +kernel
theorem dL_grants_69 : decode cL_grants 69 = .ok (.iload 4, 2) := by decide +kernel
theorem dL_grants_71 : decode cL_grants 71 = .ok (.bipush 6, 2) := by decide +kernel
theorem dL_grants_73 : decode cL_grants 73 = .ok (.if_icmp .ne 8, 3) := by decide +kernel
theorem dL_grants_76 : decode cL_grants 76 = .ok (.iload 8, 2) := by decide +kernel
theorem dL_grants_78 : decode cL_grants 78 = .ok (.ifCond .lt 13, 3) := by decide +kernel
theorem dL_grants_81 : decode cL_grants 81 = .ok (.iload 4, 2) := by decide +kernel
theorem dL_grants_83 : decode cL_grants 83 = .ok (.ifCond .ne 10, 3) := by decide +kernel
theorem dL_grants_86 : decode cL_grants 86 = .ok (.iload 8, 2) := by decide +kernel
theorem dL_grants_88 : decode cL_grants 88 = .ok (.ifCond .lt 5, 3) := by decide +kernel
theorem dL_grants_91 : decode cL_grants 91 = .ok (.iconst 0, 1) := by decide +kernel
theorem dL_grants_92 : decode cL_grants 92 = .ok (.ireturn, 1) := by decide +kernel
theorem dL_grants_93 : decode cL_grants 93 = .ok (.iload 4, 2) := by decide +kernel
theorem dL_grants_95 : decode cL_grants 95 = .ok (.ifCond .eq 28, 3) := by decide +kernel
theorem dL_grants_98 : decode cL_grants 98 = .ok (.aload_n 0, 1) := by decide +kernel
theorem dL_grants_99 : decode cL_grants 99 = .ok (.invokevirtual 43, 3) := by decide +kernel
theorem dL_grants_102 : decode cL_grants 102 = .ok (.iload 5, 2) := by decide +kernel
theorem dL_grants_104 : decode cL_grants 104 = .ok (.if_icmp .ne 17, 3) := by decide +kernel
theorem dL_grants_107 : decode cL_grants 107 = .ok (.aload_n 0, 1) := by decide +kernel
theorem dL_grants_108 : decode cL_grants 108 = .ok (.iload_n 1, 1) := by decide +kernel
theorem dL_grants_109 : decode cL_grants 109 = .ok (.invokevirtual 83, 3) := by decide +kernel
theorem dL_grants_112 : decode cL_grants 112 = .ok (.iload 6, 2) := by decide +kernel
theorem dL_grants_114 : decode cL_grants 114 = .ok (.if_icmp .ne 7, 3) := by decide +kernel
theorem dL_grants_117 : decode cL_grants 117 = .ok (.iconst 1, 1) := by decide +kernel
theorem dL_grants_118 : decode cL_grants 118 = .ok (.goto 4, 3) := by decide +kernel
theorem dL_grants_121 : decode cL_grants 121 = .ok (.iconst 0, 1) := by decide +kernel
theorem dL_grants_122 : decode cL_grants 122 = .ok (.ireturn, 1) := by decide +kernel
theorem dL_grants_123 : decode cL_grants 123 = .ok (.aload_n 0, 1) := by decide +kernel
theorem dL_grants_124 : decode cL_grants 124 = .ok (.invokevirtual 110, 3) := by decide +kernel
theorem dL_grants_127 : decode cL_grants 127 = .ok (.iload_n 3, 1) := by decide +kernel
theorem dL_grants_128 : decode cL_grants 128 = .ok (.imul, 1) := by decide +kernel
theorem dL_grants_129 : decode cL_grants 129 = .ok (.istore 10, 2) := by decide +kernel
theorem dL_grants_131 : decode cL_grants 131 = .ok (.iload 9, 2) := by decide +kernel
theorem dL_grants_133 : decode cL_grants 133 = .ok (.iload 5, 2) := by decide +kernel
theorem dL_grants_135 : decode cL_grants 135 = .ok (.iconst 1, 1) := by decide +kernel
theorem dL_grants_136 : decode cL_grants 136 = .ok (.iadd, 1) := by decide +kernel
theorem dL_grants_137 : decode cL_grants 137 = .ok (.if_icmp .ne 52, 3) := by decide +kernel
theorem dL_grants_140 : decode cL_grants 140 = .ok (.aload_n 0, 1) := by decide +kernel
theorem dL_grants_141 : decode cL_grants 141 = .ok (.iload 5, 2) := by decide +kernel
theorem dL_grants_143 : decode cL_grants 143 = .ok (.invokevirtual 46, 3) := by decide +kernel
theorem dL_grants_146 : decode cL_grants 146 = .ok (.iload_n 1, 1) := by decide +kernel
theorem dL_grants_147 : decode cL_grants 147 = .ok (.if_icmp .ne 42, 3) := by decide +kernel
theorem dL_grants_150 : decode cL_grants 150 = .ok (.aload_n 0, 1) := by decide +kernel
theorem dL_grants_151 : decode cL_grants 151 = .ok (.iload 5, 2) := by decide +kernel
theorem dL_grants_153 : decode cL_grants 153 = .ok (.invokevirtual 49, 3) := by decide +kernel
theorem dL_grants_156 : decode cL_grants 156 = .ok (.iload_n 2, 1) := by decide +kernel
theorem dL_grants_157 : decode cL_grants 157 = .ok (.if_icmp .ne 32, 3) := by decide +kernel
theorem dL_grants_160 : decode cL_grants 160 = .ok (.aload_n 0, 1) := by decide +kernel
theorem dL_grants_161 : decode cL_grants 161 = .ok (.iload_n 1, 1) := by decide +kernel
theorem dL_grants_162 : decode cL_grants 162 = .ok (.invokevirtual 83, 3) := by decide +kernel
theorem dL_grants_165 : decode cL_grants 165 = .ok (.iload 6, 2) := by decide +kernel
theorem dL_grants_167 : decode cL_grants 167 = .ok (.iload 10, 2) := by decide +kernel
theorem dL_grants_169 : decode cL_grants 169 = .ok (.isub, 1) := by decide +kernel
theorem dL_grants_170 : decode cL_grants 170 = .ok (.if_icmp .ne 19, 3) := by decide +kernel
theorem dL_grants_173 : decode cL_grants 173 = .ok (.aload_n 0, 1) := by decide +kernel
theorem dL_grants_174 : decode cL_grants 174 = .ok (.invokevirtual 101, 3) := by decide +kernel
theorem dL_grants_177 : decode cL_grants 177 = .ok (.iload 7, 2) := by decide +kernel
theorem dL_grants_179 : decode cL_grants 179 = .ok (.iload 10, 2) := by decide +kernel
theorem dL_grants_181 : decode cL_grants 181 = .ok (.iadd, 1) := by decide +kernel
theorem dL_grants_182 : decode cL_grants 182 = .ok (.if_icmp .ne 7, 3) := by decide +kernel
theorem dL_grants_185 : decode cL_grants 185 = .ok (.iconst 1, 1) := by decide +kernel
theorem dL_grants_186 : decode cL_grants 186 = .ok (.goto 4, 3) := by decide +kernel
theorem dL_grants_189 : decode cL_grants 189 = .ok (.iconst 0, 1) := by decide +kernel
theorem dL_grants_190 : decode cL_grants 190 = .ok (.ireturn, 1) := by decide +kernel
theorem dL_law_0 : decode cL_law 0 = .ok (.new 8, 3) := by decide +kernel
theorem dL_law_3 : decode cL_law 3 = .ok (.dup, 1) := by decide +kernel
theorem dL_law_4 : decode cL_law 4 = .ok (.invokespecial 113, 3) := by decide +kernel
theorem dL_law_7 : decode cL_law 7 = .ok (.astore_n 1, 1) := by decide +kernel
theorem dL_law_8 : decode cL_law 8 = .ok (.iconst 0, 1) := by decide +kernel
theorem dL_law_9 : decode cL_law 9 = .ok (.istore_n 2, 1) := by decide +kernel
theorem dL_law_10 : decode cL_law 10 = .ok (.iload_n 2, 1) := by decide +kernel
theorem dL_law_11 : decode cL_law 11 = .ok (.bipush 36, 2) := by decide +kernel
theorem dL_law_13 : decode cL_law 13 = .ok (.if_icmp .ge 475, 3) := by decide +kernel
theorem dL_law_16 : decode cL_law 16 = .ok (.bipush 7, 2) := by decide +kernel
theorem dL_law_18 : decode cL_law 18 = .ok (.iload_n 2, 1) := by decide +kernel
theorem dL_law_19 : decode cL_law 19 = .ok (.imul, 1) := by decide +kernel
theorem dL_law_20 : decode cL_law 20 = .ok (.istore_n 3, 1) := by decide +kernel
theorem dL_law_21 : decode cL_law 21 = .ok (.aload_n 0, 1) := by decide +kernel
theorem dL_law_22 : decode cL_law 22 = .ok (.iload_n 3, 1) := by decide +kernel
theorem dL_law_23 : decode cL_law 23 = .ok (.bipush 14, 2) := by decide +kernel
theorem dL_law_25 : decode cL_law 25 = .ok (.invokestatic 29, 3) := by decide +kernel
theorem dL_law_28 : decode cL_law 28 = .ok (.istore 4, 2) := by decide +kernel
theorem dL_law_30 : decode cL_law 30 = .ok (.aload_n 0, 1) := by decide +kernel
theorem dL_law_31 : decode cL_law 31 = .ok (.iload_n 3, 1) := by decide +kernel
theorem dL_law_32 : decode cL_law 32 = .ok (.iconst 1, 1) := by decide +kernel
theorem dL_law_33 : decode cL_law 33 = .ok (.iadd, 1) := by decide +kernel
theorem dL_law_34 : decode cL_law 34 = .ok (.aload_n 1, 1) := by decide +kernel
theorem dL_law_35 : decode cL_law 35 = .ok (.invokevirtual 80, 3) := by decide +kernel
theorem dL_law_38 : decode cL_law 38 = .ok (.invokestatic 29, 3) := by decide +kernel
theorem dL_law_41 : decode cL_law 41 = .ok (.istore 5, 2) := by decide +kernel
theorem dL_law_43 : decode cL_law 43 = .ok (.aload_n 1, 1) := by decide +kernel
theorem dL_law_44 : decode cL_law 44 = .ok (.invokevirtual 39, 3) := by decide +kernel
theorem dL_law_47 : decode cL_law 47 = .ok (.aload_n 0, 1) := by decide +kernel
theorem dL_law_48 : decode cL_law 48 = .ok (.iload_n 3, 1) := by decide +kernel
theorem dL_law_49 : decode cL_law 49 = .ok (.iconst 2, 1) := by decide +kernel
theorem dL_law_50 : decode cL_law 50 = .ok (.iadd, 1) := by decide +kernel
theorem dL_law_51 : decode cL_law 51 = .ok (.bipush 9, 2) := by decide +kernel
theorem dL_law_53 : decode cL_law 53 = .ok (.invokestatic 29, 3) := by decide +kernel
theorem dL_law_56 : decode cL_law 56 = .ok (.iadd, 1) := by decide +kernel
theorem dL_law_57 : decode cL_law 57 = .ok (.istore 6, 2) := by decide +kernel
theorem dL_law_59 : decode cL_law 59 = .ok (.iconst 1, 1) := by decide +kernel
theorem dL_law_60 : decode cL_law 60 = .ok (.aload_n 0, 1) := by decide +kernel
theorem dL_law_61 : decode cL_law 61 = .ok (.iload_n 3, 1) := by decide +kernel
theorem dL_law_62 : decode cL_law 62 = .ok (.iconst 3, 1) := by decide +kernel
theorem dL_law_63 : decode cL_law 63 = .ok (.iadd, 1) := by decide +kernel
theorem dL_law_64 : decode cL_law 64 = .ok (.aload_n 0, 1) := by decide +kernel
theorem dL_law_65 : decode cL_law 65 = .ok (.iload_n 3, 1) := by decide +kernel
theorem dL_law_66 : decode cL_law 66 = .ok (.iconst 4, 1) := by decide +kernel
theorem dL_law_67 : decode cL_law 67 = .ok (.iadd, 1) := by decide +kernel
theorem dL_law_68 : decode cL_law 68 = .ok (.iconst 4, 1) := by decide +kernel
theorem dL_law_69 : decode cL_law 69 = .ok (.invokestatic 29, 3) := by decide +kernel
theorem dL_law_72 : decode cL_law 72 = .ok (.ifCond .ne 8, 3) := by decide +kernel
theorem dL_law_75 : decode cL_law 75 = .ok (.bipush 24, 2) := by decide +kernel
theorem dL_law_77 : decode cL_law 77 = .ok (.goto 4, 3) := by decide +kernel
theorem dL_law_80 : decode cL_law 80 = .ok (.iconst 4, 1) := by decide +kernel
theorem dL_law_81 : decode cL_law 81 = .ok (.invokestatic 29, 3) := by decide +kernel
theorem dL_law_84 : decode cL_law 84 = .ok (.iadd, 1) := by decide +kernel
theorem dL_law_85 : decode cL_law 85 = .ok (.istore 7, 2) := by decide +kernel
theorem dL_law_87 : decode cL_law 87 = .ok (.iload 4, 2) := by decide +kernel
theorem dL_law_89 : decode cL_law 89 = .ok (.iconst 5, 1) := by decide +kernel
theorem dL_law_90 : decode cL_law 90 = .ok (.if_icmp .ge 18, 3) := by decide +kernel
theorem dL_law_93 : decode cL_law 93 = .ok (.aload_n 1, 1) := by decide +kernel
theorem dL_law_94 : decode cL_law 94 = .ok (.iload 5, 2) := by decide +kernel
theorem dL_law_96 : decode cL_law 96 = .ok (.iload 6, 2) := by decide +kernel
theorem dL_law_98 : decode cL_law 98 = .ok (.iload 7, 2) := by decide +kernel
theorem dL_law_100 : decode cL_law 100 = .ok (.invokestatic 114, 3) := by decide +kernel
theorem dL_law_103 : decode cL_law 103 = .ok (.ifCond .ne 5, 3) := by decide +kernel
theorem dL_law_106 : decode cL_law 106 = .ok (.iconst 0, 1) := by decide +kernel
theorem dL_law_107 : decode cL_law 107 = .ok (.ireturn, 1) := by decide +kernel
theorem dL_law_108 : decode cL_law 108 = .ok (.iload 4, 2) := by decide +kernel
theorem dL_law_110 : decode cL_law 110 = .ok (.iconst 5, 1) := by decide +kernel
theorem dL_law_111 : decode cL_law 111 = .ok (.if_icmp .ne 29, 3) := by decide +kernel
theorem dL_law_114 : decode cL_law 114 = .ok (.aload_n 1, 1) := by decide +kernel
theorem dL_law_115 : decode cL_law 115 = .ok (.iload_n 3, 1) := by decide +kernel
theorem dL_law_116 : decode cL_law 116 = .ok (.iconst 1, 1) := by decide +kernel
theorem dL_law_117 : decode cL_law 117 = .ok (.iadd, 1) := by decide +kernel
theorem dL_law_118 : decode cL_law 118 = .ok (.aload_n 0, 1) := by decide +kernel
theorem dL_law_119 : decode cL_law 119 = .ok (.invokestatic 118, 3) := by decide +kernel
theorem dL_law_122 : decode cL_law 122 = .ok (.ifCond .lt 18, 3) := by decide +kernel
theorem dL_law_125 : decode cL_law 125 = .ok (.aload_n 1, 1) := by decide +kernel
theorem dL_law_126 : decode cL_law 126 = .ok (.aload_n 1, 1) := by decide +kernel
theorem dL_law_127 : decode cL_law 127 = .ok (.invokevirtual 80, 3) := by decide +kernel
theorem dL_law_130 : decode cL_law 130 = .ok (.iconst 1, 1) := by decide +kernel
theorem dL_law_131 : decode cL_law 131 = .ok (.isub, 1) := by decide +kernel
theorem dL_law_132 : decode cL_law 132 = .ok (.invokevirtual 86, 3) := by decide +kernel
theorem dL_law_135 : decode cL_law 135 = .ok (.ifCond .eq 5, 3) := by decide +kernel
theorem dL_law_138 : decode cL_law 138 = .ok (.iconst 0, 1) := by decide +kernel
theorem dL_law_139 : decode cL_law 139 = .ok (.ireturn, 1) := by decide +kernel
theorem dL_law_140 : decode cL_law 140 = .ok (.iload 4, 2) := by decide +kernel
theorem dL_law_142 : decode cL_law 142 = .ok (.bipush 6, 2) := by decide +kernel
theorem dL_law_144 : decode cL_law 144 = .ok (.if_icmp .eq 10, 3) := by decide +kernel
theorem dL_law_147 : decode cL_law 147 = .ok (.iload 4, 2) := by decide +kernel
theorem dL_law_149 : decode cL_law 149 = .ok (.bipush 7, 2) := by decide +kernel
theorem dL_law_151 : decode cL_law 151 = .ok (.if_icmp .ne 88, 3) := by decide +kernel
theorem dL_law_154 : decode cL_law 154 = .ok (.aload_n 1, 1) := by decide +kernel
theorem dL_law_155 : decode cL_law 155 = .ok (.iload 5, 2) := by decide +kernel
theorem dL_law_157 : decode cL_law 157 = .ok (.invokevirtual 86, 3) := by decide +kernel
theorem dL_law_160 : decode cL_law 160 = .ok (.ifCond .ne 20, 3) := by decide +kernel
theorem dL_law_163 : decode cL_law 163 = .ok (.aload_n 1, 1) := by decide +kernel
theorem dL_law_164 : decode cL_law 164 = .ok (.iload 5, 2) := by decide +kernel
theorem dL_law_166 : decode cL_law 166 = .ok (.aload_n 1, 1) := by decide +kernel
theorem dL_law_167 : decode cL_law 167 = .ok (.invokevirtual 39, 3) := by decide +kernel
theorem dL_law_170 : decode cL_law 170 = .ok (.invokevirtual 64, 3) := by decide +kernel
theorem dL_law_173 : decode cL_law 173 = .ok (.ifCond .eq 7, 3) := by decide +kernel
theorem dL_law_176 : decode cL_law 176 = .ok (.iconst 1, 1) := by decide +kernel
theorem dL_law_177 : decode cL_law 177 = .ok (.goto 4, 3) := by decide +kernel
theorem dL_law_180 : decode cL_law 180 = .ok (.iconst 0, 1) := by decide +kernel
theorem dL_law_181 : decode cL_law 181 = .ok (.istore 8, 2) := by decide +kernel
theorem dL_law_183 : decode cL_law 183 = .ok (.aload_n 1, 1) := by decide +kernel
theorem dL_law_184 : decode cL_law 184 = .ok (.iload 5, 2) := by decide +kernel
theorem dL_law_186 : decode cL_law 186 = .ok (.invokestatic 122, 3) := by decide +kernel
theorem dL_law_189 : decode cL_law 189 = .ok (.istore 9, 2) := by decide +kernel
theorem dL_law_191 : decode cL_law 191 = .ok (.iload 8, 2) := by decide +kernel
theorem dL_law_193 : decode cL_law 193 = .ok (.iload 9, 2) := by decide +kernel
theorem dL_law_195 : decode cL_law 195 = .ok (.iconst 1, 1) := by decide +kernel
theorem dL_law_196 : decode cL_law 196 = .ok (.if_icmp .lt 7, 3) := by decide +kernel
theorem dL_law_199 : decode cL_law 199 = .ok (.iconst 1, 1) := by decide +kernel
theorem dL_law_200 : decode cL_law 200 = .ok (.goto 4, 3) := by decide +kernel
theorem dL_law_203 : decode cL_law 203 = .ok (.iconst 0, 1) := by decide +kernel
theorem dL_law_204 : decode cL_law 204 = .ok (.if_icmp .ne 33, 3) := by decide +kernel
theorem dL_law_207 : decode cL_law 207 = .ok (.iload 8, 2) := by decide +kernel
theorem dL_law_209 : decode cL_law 209 = .ok (.ifCond .eq 30, 3) := by decide +kernel
theorem dL_law_212 : decode cL_law 212 = .ok (.aload_n 1, 1) := by decide +kernel
theorem dL_law_213 : decode cL_law 213 = .ok (.iload 5, 2) := by decide +kernel
theorem dL_law_215 : decode cL_law 215 = .ok (.invokevirtual 86, 3) := by decide +kernel
theorem dL_law_218 : decode cL_law 218 = .ok (.iconst 1, 1) := by decide +kernel
theorem dL_law_219 : decode cL_law 219 = .ok (.if_icmp .ne 18, 3) := by decide +kernel
theorem dL_law_222 : decode cL_law 222 = .ok (.iload 9, 2) := by decide +kernel
theorem dL_law_224 : decode cL_law 224 = .ok (.aload_n 1, 1) := by decide +kernel
theorem dL_law_225 : decode cL_law 225 = .ok (.iload 5, 2) := by decide +kernel
theorem dL_law_227 : decode cL_law 227 = .ok (.aload_n 1, 1) := by decide +kernel
theorem dL_law_228 : decode cL_law 228 = .ok (.invokevirtual 39, 3) := by decide +kernel
theorem dL_law_231 : decode cL_law 231 = .ok (.invokevirtual 125, 3) := by decide +kernel
theorem dL_law_234 : decode cL_law 234 = .ok (.if_icmp .eq 5, 3) := by decide +kernel
theorem dL_law_237 : decode cL_law 237 = .ok (.iconst 0, 1) := by decide +kernel
theorem dL_law_238 : decode cL_law 238 = .ok (.ireturn, 1) := by decide +kernel
theorem dL_law_239 : decode cL_law 239 = .ok (.iload 4, 2) := by decide +kernel
theorem dL_law_241 : decode cL_law 241 = .ok (.bipush 8, 2) := by decide +kernel
theorem dL_law_243 : decode cL_law 243 = .ok (.if_icmp .ne 23, 3) := by decide +kernel
theorem dL_law_246 : decode cL_law 246 = .ok (.aload_n 1, 1) := by decide +kernel
theorem dL_law_247 : decode cL_law 247 = .ok (.iload 5, 2) := by decide +kernel
theorem dL_law_249 : decode cL_law 249 = .ok (.invokestatic 128, 3) := by decide +kernel
theorem dL_law_252 : decode cL_law 252 = .ok (.ifCond .lt 14, 3) := by decide +kernel
theorem dL_law_255 : decode cL_law 255 = .ok (.aload_n 1, 1) := by decide +kernel
theorem dL_law_256 : decode cL_law 256 = .ok (.iload 5, 2) := by decide +kernel
theorem dL_law_258 : decode cL_law 258 = .ok (.invokevirtual 86, 3) := by decide +kernel
theorem dL_law_261 : decode cL_law 261 = .ok (.ifCond .eq 5, 3) := by decide +kernel
theorem dL_law_264 : decode cL_law 264 = .ok (.iconst 0, 1) := by decide +kernel
theorem dL_law_265 : decode cL_law 265 = .ok (.ireturn, 1) := by decide +kernel
theorem dL_law_266 : decode cL_law 266 = .ok (.iload 4, 2) := by decide +kernel
theorem dL_law_268 : decode cL_law 268 = .ok (.bipush 9, 2) := by decide +kernel
theorem dL_law_270 : decode cL_law 270 = .ok (.if_icmp .eq 10, 3) := by decide +kernel
theorem dL_law_273 : decode cL_law 273 = .ok (.iload 4, 2) := by decide +kernel
theorem dL_law_275 : decode cL_law 275 = .ok (.bipush 10, 2) := by decide +kernel
theorem dL_law_277 : decode cL_law 277 = .ok (.if_icmp .ne 18, 3) := by decide +kernel
theorem dL_law_280 : decode cL_law 280 = .ok (.aload_n 1, 1) := by decide +kernel
theorem dL_law_281 : decode cL_law 281 = .ok (.iconst 1, 1) := by decide +kernel
theorem dL_law_282 : decode cL_law 282 = .ok (.aload_n 0, 1) := by decide +kernel
theorem dL_law_283 : decode cL_law 283 = .ok (.iload_n 3, 1) := by decide +kernel
theorem dL_law_284 : decode cL_law 284 = .ok (.iconst 5, 1) := by decide +kernel
theorem dL_law_285 : decode cL_law 285 = .ok (.iadd, 1) := by decide +kernel
theorem dL_law_286 : decode cL_law 286 = .ok (.iconst 5, 1) := by decide +kernel
theorem dL_law_287 : decode cL_law 287 = .ok (.invokestatic 29, 3) := by decide +kernel
theorem dL_law_290 : decode cL_law 290 = .ok (.iadd, 1) := by decide +kernel
theorem dL_law_291 : decode cL_law 291 = .ok (.invokevirtual 130, 3) := by decide +kernel
theorem dL_law_294 : decode cL_law 294 = .ok (.pop, 1) := by decide +kernel
theorem dL_law_295 : decode cL_law 295 = .ok (.iload 4, 2) := by decide +kernel
theorem dL_law_297 : decode cL_law 297 = .ok (.bipush 11, 2) := by decide +kernel
theorem dL_law_299 : decode cL_law 299 = .ok (.if_icmp .ne 79, 3) := by decide +kernel
theorem dL_law_302 : decode cL_law 302 = .ok (.aload_n 1, 1) := by decide +kernel
theorem dL_law_303 : decode cL_law 303 = .ok (.iload 5, 2) := by decide +kernel
theorem dL_law_305 : decode cL_law 305 = .ok (.invokevirtual 133, 3) := by decide +kernel
theorem dL_law_308 : decode cL_law 308 = .ok (.istore 8, 2) := by decide +kernel
theorem dL_law_310 : decode cL_law 310 = .ok (.aload_n 0, 1) := by decide +kernel
theorem dL_law_311 : decode cL_law 311 = .ok (.iload_n 3, 1) := by decide +kernel
theorem dL_law_312 : decode cL_law 312 = .ok (.iconst 5, 1) := by decide +kernel
theorem dL_law_313 : decode cL_law 313 = .ok (.iadd, 1) := by decide +kernel
theorem dL_law_314 : decode cL_law 314 = .ok (.bipush 6, 2) := by decide +kernel
theorem dL_law_316 : decode cL_law 316 = .ok (.invokestatic 29, 3) := by decide +kernel
theorem dL_law_319 : decode cL_law 319 = .ok (.istore 9, 2) := by decide +kernel
theorem dL_law_321 : decode cL_law 321 = .ok (.aload_n 1, 1) := by decide +kernel
theorem dL_law_322 : decode cL_law 322 = .ok (.iload 5, 2) := by decide +kernel
theorem dL_law_324 : decode cL_law 324 = .ok (.iload 9, 2) := by decide +kernel
theorem dL_law_326 : decode cL_law 326 = .ok (.invokestatic 136, 3) := by decide +kernel
theorem dL_law_329 : decode cL_law 329 = .ok (.ifCond .lt 27, 3) := by decide +kernel
theorem dL_law_332 : decode cL_law 332 = .ok (.aload_n 1, 1) := by decide +kernel
theorem dL_law_333 : decode cL_law 333 = .ok (.iload 5, 2) := by decide +kernel
theorem dL_law_335 : decode cL_law 335 = .ok (.invokevirtual 133, 3) := by decide +kernel
theorem dL_law_338 : decode cL_law 338 = .ok (.iload 9, 2) := by decide +kernel
theorem dL_law_340 : decode cL_law 340 = .ok (.if_icmp .ne 14, 3) := by decide +kernel
theorem dL_law_343 : decode cL_law 343 = .ok (.aload_n 1, 1) := by decide +kernel
theorem dL_law_344 : decode cL_law 344 = .ok (.iload 5, 2) := by decide +kernel
theorem dL_law_346 : decode cL_law 346 = .ok (.iload 6, 2) := by decide +kernel
theorem dL_law_348 : decode cL_law 348 = .ok (.invokevirtual 60, 3) := by decide +kernel
theorem dL_law_351 : decode cL_law 351 = .ok (.ifCond .eq 5, 3) := by decide +kernel
theorem dL_law_354 : decode cL_law 354 = .ok (.iconst 0, 1) := by decide +kernel
theorem dL_law_355 : decode cL_law 355 = .ok (.ireturn, 1) := by decide +kernel
theorem dL_law_356 : decode cL_law 356 = .ok (.aload_n 1, 1) := by decide +kernel
theorem dL_law_357 : decode cL_law 357 = .ok (.iload 5, 2) := by decide +kernel
theorem dL_law_359 : decode cL_law 359 = .ok (.invokevirtual 86, 3) := by decide +kernel
theorem dL_law_362 : decode cL_law 362 = .ok (.ifCond .eq 16, 3) := by decide +kernel
theorem dL_law_365 : decode cL_law 365 = .ok (.aload_n 1, 1) := by decide +kernel
theorem dL_law_366 : decode cL_law 366 = .ok (.iload 5, 2) := by decide +kernel
theorem dL_law_368 : decode cL_law 368 = .ok (.invokevirtual 133, 3) := by decide +kernel
theorem dL_law_371 : decode cL_law 371 = .ok (.iload 8, 2) := by decide +kernel
theorem dL_law_373 : decode cL_law 373 = .ok (.if_icmp .eq 5, 3) := by decide +kernel
theorem dL_law_376 : decode cL_law 376 = .ok (.iconst 0, 1) := by decide +kernel
theorem dL_law_377 : decode cL_law 377 = .ok (.ireturn, 1) := by decide +kernel
theorem dL_law_378 : decode cL_law 378 = .ok (.iload 4, 2) := by decide +kernel
theorem dL_law_380 : decode cL_law 380 = .ok (.bipush 12, 2) := by decide +kernel
theorem dL_law_382 : decode cL_law 382 = .ok (.if_icmp .ne 66, 3) := by decide +kernel
theorem dL_law_385 : decode cL_law 385 = .ok (.iconst 2, 1) := by decide +kernel
theorem dL_law_386 : decode cL_law 386 = .ok (.aload_n 1, 1) := by decide +kernel
theorem dL_law_387 : decode cL_law 387 = .ok (.iload 5, 2) := by decide +kernel
theorem dL_law_389 : decode cL_law 389 = .ok (.invokevirtual 133, 3) := by decide +kernel
theorem dL_law_392 : decode cL_law 392 = .ok (.imul, 1) := by decide +kernel
theorem dL_law_393 : decode cL_law 393 = .ok (.istore 8, 2) := by decide +kernel
theorem dL_law_395 : decode cL_law 395 = .ok (.aload_n 1, 1) := by decide +kernel
theorem dL_law_396 : decode cL_law 396 = .ok (.iload 5, 2) := by decide +kernel
theorem dL_law_398 : decode cL_law 398 = .ok (.invokevirtual 83, 3) := by decide +kernel
theorem dL_law_401 : decode cL_law 401 = .ok (.istore 9, 2) := by decide +kernel
theorem dL_law_403 : decode cL_law 403 = .ok (.aload_n 1, 1) := by decide +kernel
theorem dL_law_404 : decode cL_law 404 = .ok (.iload 5, 2) := by decide +kernel
theorem dL_law_406 : decode cL_law 406 = .ok (.invokestatic 140, 3) := by decide +kernel
theorem dL_law_409 : decode cL_law 409 = .ok (.istore 10, 2) := by decide +kernel
theorem dL_law_411 : decode cL_law 411 = .ok (.iload 10, 2) := by decide +kernel
theorem dL_law_413 : decode cL_law 413 = .ok (.ifCond .lt 35, 3) := by decide +kernel
theorem dL_law_416 : decode cL_law 416 = .ok (.iload 10, 2) := by decide +kernel
theorem dL_law_418 : decode cL_law 418 = .ok (.iload 8, 2) := by decide +kernel
theorem dL_law_420 : decode cL_law 420 = .ok (.if_icmp .ne 26, 3) := by decide +kernel
theorem dL_law_423 : decode cL_law 423 = .ok (.aload_n 1, 1) := by decide +kernel
theorem dL_law_424 : decode cL_law 424 = .ok (.iload 5, 2) := by decide +kernel
theorem dL_law_426 : decode cL_law 426 = .ok (.invokevirtual 83, 3) := by decide +kernel
theorem dL_law_429 : decode cL_law 429 = .ok (.iload 9, 2) := by decide +kernel
theorem dL_law_431 : decode cL_law 431 = .ok (.iload 8, 2) := by decide +kernel
theorem dL_law_433 : decode cL_law 433 = .ok (.isub, 1) := by decide +kernel
theorem dL_law_434 : decode cL_law 434 = .ok (.if_icmp .ne 12, 3) := by decide +kernel
theorem dL_law_437 : decode cL_law 437 = .ok (.aload_n 1, 1) := by decide +kernel
theorem dL_law_438 : decode cL_law 438 = .ok (.iload 5, 2) := by decide +kernel
theorem dL_law_440 : decode cL_law 440 = .ok (.invokevirtual 86, 3) := by decide +kernel
theorem dL_law_443 : decode cL_law 443 = .ok (.ifCond .eq 5, 3) := by decide +kernel
theorem dL_law_446 : decode cL_law 446 = .ok (.iconst 0, 1) := by decide +kernel
theorem dL_law_447 : decode cL_law 447 = .ok (.ireturn, 1) := by decide +kernel
theorem dL_law_448 : decode cL_law 448 = .ok (.iload 4, 2) := by decide +kernel
theorem dL_law_450 : decode cL_law 450 = .ok (.bipush 13, 2) := by decide +kernel
theorem dL_law_452 : decode cL_law 452 = .ok (.if_icmp .ne 21, 3) := by decide +kernel
theorem dL_law_455 : decode cL_law 455 = .ok (.aload_n 1, 1) := by decide +kernel
theorem dL_law_456 : decode cL_law 456 = .ok (.iload 5, 2) := by decide +kernel
theorem dL_law_458 : decode cL_law 458 = .ok (.iconst 1, 1) := by decide +kernel
theorem dL_law_459 : decode cL_law 459 = .ok (.aload_n 0, 1) := by decide +kernel
theorem dL_law_460 : decode cL_law 460 = .ok (.iload_n 3, 1) := by decide +kernel
theorem dL_law_461 : decode cL_law 461 = .ok (.iconst 5, 1) := by decide +kernel
theorem dL_law_462 : decode cL_law 462 = .ok (.iadd, 1) := by decide +kernel
theorem dL_law_463 : decode cL_law 463 = .ok (.bipush 60, 2) := by decide +kernel
theorem dL_law_465 : decode cL_law 465 = .ok (.invokestatic 29, 3) := by decide +kernel
theorem dL_law_468 : decode cL_law 468 = .ok (.iadd, 1) := by decide +kernel
theorem dL_law_469 : decode cL_law 469 = .ok (.invokevirtual 142, 3) := by decide +kernel
theorem dL_law_472 : decode cL_law 472 = .ok (.pop, 1) := by decide +kernel
theorem dL_law_473 : decode cL_law 473 = .ok (.aload_n 1, 1) := by decide +kernel
theorem dL_law_474 : decode cL_law 474 = .ok (.invokestatic 145, 3) := by decide +kernel
theorem dL_law_477 : decode cL_law 477 = .ok (.ifCond .ne 5, 3) := by decide +kernel
theorem dL_law_480 : decode cL_law 480 = .ok (.iconst 0, 1) := by decide +kernel
theorem dL_law_481 : decode cL_law 481 = .ok (.ireturn, 1) := by decide +kernel
theorem dL_law_482 : decode cL_law 482 = .ok (.iinc 2 1, 3) := by decide +kernel
theorem dL_law_485 : decode cL_law 485 = .ok (.goto (-475), 3) := by decide +kernel
theorem dL_law_488 : decode cL_law 488 = .ok (.iconst 1, 1) := by decide +kernel
theorem dL_law_489 : decode cL_law 489 = .ok (.ireturn, 1) := by decide +kernel
