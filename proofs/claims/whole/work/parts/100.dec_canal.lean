theorem d_X_isLock_0 : decode b_X_isLock 0 = .ok (.iload_n 0, 1) := by decide +kernel
theorem d_X_isLock_1 : decode b_X_isLock 1 = .ok (.ifCond .lt 13, 3) := by decide +kernel
theorem d_X_isLock_4 : decode b_X_isLock 4 = .ok (.iload_n 0, 1) := by decide +kernel
theorem d_X_isLock_5 : decode b_X_isLock 5 = .ok (.bipush 10, 2) := by decide +kernel
theorem d_X_isLock_7 : decode b_X_isLock 7 = .ok (.if_icmp .ge 7, 3) := by decide +kernel
theorem d_X_isLock_10 : decode b_X_isLock 10 = .ok (.iconst 1, 1) := by decide +kernel
theorem d_X_isLock_11 : decode b_X_isLock 11 = .ok (.goto 4, 3) := by decide +kernel
theorem d_X_isLock_14 : decode b_X_isLock 14 = .ok (.iconst 0, 1) := by decide +kernel
theorem d_X_isLock_15 : decode b_X_isLock 15 = .ok (.ireturn, 1) := by decide +kernel
theorem d_X_heldLoad_0 : decode b_X_heldLoad 0 = .ok (.iload_n 0, 1) := by decide +kernel
theorem d_X_heldLoad_1 : decode b_X_heldLoad 1 = .ok (.ifCond .ge 7, 3) := by decide +kernel
theorem d_X_heldLoad_4 : decode b_X_heldLoad 4 = .ok (.iconst 0, 1) := by decide +kernel
theorem d_X_heldLoad_5 : decode b_X_heldLoad 5 = .ok (.goto 15, 3) := by decide +kernel
theorem d_X_heldLoad_8 : decode b_X_heldLoad 8 = .ok (.iload_n 0, 1) := by decide +kernel
theorem d_X_heldLoad_9 : decode b_X_heldLoad 9 = .ok (.bipush 99, 2) := by decide +kernel
theorem d_X_heldLoad_11 : decode b_X_heldLoad 11 = .ok (.if_icmp .le 8, 3) := by decide +kernel
theorem d_X_heldLoad_14 : decode b_X_heldLoad 14 = .ok (.bipush 99, 2) := by decide +kernel
theorem d_X_heldLoad_16 : decode b_X_heldLoad 16 = .ok (.goto 4, 3) := by decide +kernel
theorem d_X_heldLoad_19 : decode b_X_heldLoad 19 = .ok (.iload_n 0, 1) := by decide +kernel
theorem d_X_heldLoad_20 : decode b_X_heldLoad 20 = .ok (.ireturn, 1) := by decide +kernel
theorem d_JA_fill_0 : decode b_JA_fill 0 = .ok (.iconst 0, 1) := by decide +kernel
theorem d_JA_fill_1 : decode b_JA_fill 1 = .ok (.istore_n 2, 1) := by decide +kernel
theorem d_JA_fill_2 : decode b_JA_fill 2 = .ok (.aload_n 0, 1) := by decide +kernel
theorem d_JA_fill_3 : decode b_JA_fill 3 = .ok (.arraylength, 1) := by decide +kernel
theorem d_JA_fill_4 : decode b_JA_fill 4 = .ok (.istore_n 3, 1) := by decide +kernel
theorem d_JA_fill_5 : decode b_JA_fill 5 = .ok (.iload_n 2, 1) := by decide +kernel
theorem d_JA_fill_6 : decode b_JA_fill 6 = .ok (.iload_n 3, 1) := by decide +kernel
theorem d_JA_fill_7 : decode b_JA_fill 7 = .ok (.if_icmp .ge 13, 3) := by decide +kernel
theorem d_JA_fill_10 : decode b_JA_fill 10 = .ok (.aload_n 0, 1) := by decide +kernel
theorem d_JA_fill_11 : decode b_JA_fill 11 = .ok (.iload_n 2, 1) := by decide +kernel
theorem d_JA_fill_12 : decode b_JA_fill 12 = .ok (.iload_n 1, 1) := by decide +kernel
theorem d_JA_fill_13 : decode b_JA_fill 13 = .ok (.iastore, 1) := by decide +kernel
theorem d_JA_fill_14 : decode b_JA_fill 14 = .ok (.iinc 2 1, 3) := by decide +kernel
theorem d_JA_fill_17 : decode b_JA_fill 17 = .ok (.goto (-12), 3) := by decide +kernel
theorem d_JA_fill_20 : decode b_JA_fill 20 = .ok (.return_, 1) := by decide +kernel
theorem d_C_clearAllButDraws_0 : decode b_C_clearAllButDraws 0 = .ok (.getstatic 49, 3) := by decide +kernel
theorem d_C_clearAllButDraws_3 : decode b_C_clearAllButDraws 3 = .ok (.iconst 0, 1) := by decide +kernel
theorem d_C_clearAllButDraws_4 : decode b_C_clearAllButDraws 4 = .ok (.aload_n 0, 1) := by decide +kernel
theorem d_C_clearAllButDraws_5 : decode b_C_clearAllButDraws 5 = .ok (.getfield 9, 3) := by decide +kernel
theorem d_C_clearAllButDraws_8 : decode b_C_clearAllButDraws 8 = .ok (.iconst 0, 1) := by decide +kernel
theorem d_C_clearAllButDraws_9 : decode b_C_clearAllButDraws 9 = .ok (.iconst 4, 1) := by decide +kernel
theorem d_C_clearAllButDraws_10 : decode b_C_clearAllButDraws 10 = .ok (.invokestatic 52, 3) := by decide +kernel
theorem d_C_clearAllButDraws_13 : decode b_C_clearAllButDraws 13 = .ok (.aload_n 0, 1) := by decide +kernel
theorem d_C_clearAllButDraws_14 : decode b_C_clearAllButDraws 14 = .ok (.getfield 15, 3) := by decide +kernel
theorem d_C_clearAllButDraws_17 : decode b_C_clearAllButDraws 17 = .ok (.iconst 2, 1) := by decide +kernel
theorem d_C_clearAllButDraws_18 : decode b_C_clearAllButDraws 18 = .ok (.invokestatic 58, 3) := by decide +kernel
theorem d_C_clearAllButDraws_21 : decode b_C_clearAllButDraws 21 = .ok (.aload_n 0, 1) := by decide +kernel
theorem d_C_clearAllButDraws_22 : decode b_C_clearAllButDraws 22 = .ok (.getfield 18, 3) := by decide +kernel
theorem d_C_clearAllButDraws_25 : decode b_C_clearAllButDraws 25 = .ok (.iconst 0, 1) := by decide +kernel
theorem d_C_clearAllButDraws_26 : decode b_C_clearAllButDraws 26 = .ok (.invokestatic 58, 3) := by decide +kernel
theorem d_C_clearAllButDraws_29 : decode b_C_clearAllButDraws 29 = .ok (.aload_n 0, 1) := by decide +kernel
theorem d_C_clearAllButDraws_30 : decode b_C_clearAllButDraws 30 = .ok (.iconst 0, 1) := by decide +kernel
theorem d_C_clearAllButDraws_31 : decode b_C_clearAllButDraws 31 = .ok (.putfield 36, 3) := by decide +kernel
theorem d_C_clearAllButDraws_34 : decode b_C_clearAllButDraws 34 = .ok (.aload_n 0, 1) := by decide +kernel
theorem d_C_clearAllButDraws_35 : decode b_C_clearAllButDraws 35 = .ok (.iconst 0, 1) := by decide +kernel
theorem d_C_clearAllButDraws_36 : decode b_C_clearAllButDraws 36 = .ok (.putfield 40, 3) := by decide +kernel
theorem d_C_clearAllButDraws_39 : decode b_C_clearAllButDraws 39 = .ok (.return_, 1) := by decide +kernel
theorem d_C_copyFrom_0 : decode b_C_copyFrom 0 = .ok (.aload_n 1, 1) := by decide +kernel
theorem d_C_copyFrom_1 : decode b_C_copyFrom 1 = .ok (.getfield 9, 3) := by decide +kernel
theorem d_C_copyFrom_4 : decode b_C_copyFrom 4 = .ok (.iconst 0, 1) := by decide +kernel
theorem d_C_copyFrom_5 : decode b_C_copyFrom 5 = .ok (.aload_n 0, 1) := by decide +kernel
theorem d_C_copyFrom_6 : decode b_C_copyFrom 6 = .ok (.getfield 9, 3) := by decide +kernel
theorem d_C_copyFrom_9 : decode b_C_copyFrom 9 = .ok (.iconst 0, 1) := by decide +kernel
theorem d_C_copyFrom_10 : decode b_C_copyFrom 10 = .ok (.iconst 4, 1) := by decide +kernel
theorem d_C_copyFrom_11 : decode b_C_copyFrom 11 = .ok (.invokestatic 52, 3) := by decide +kernel
theorem d_C_copyFrom_14 : decode b_C_copyFrom 14 = .ok (.aload_n 1, 1) := by decide +kernel
theorem d_C_copyFrom_15 : decode b_C_copyFrom 15 = .ok (.getfield 15, 3) := by decide +kernel
theorem d_C_copyFrom_18 : decode b_C_copyFrom 18 = .ok (.iconst 0, 1) := by decide +kernel
theorem d_C_copyFrom_19 : decode b_C_copyFrom 19 = .ok (.aload_n 0, 1) := by decide +kernel
theorem d_C_copyFrom_20 : decode b_C_copyFrom 20 = .ok (.getfield 15, 3) := by decide +kernel
theorem d_C_copyFrom_23 : decode b_C_copyFrom 23 = .ok (.iconst 0, 1) := by decide +kernel
theorem d_C_copyFrom_24 : decode b_C_copyFrom 24 = .ok (.bipush 10, 2) := by decide +kernel
theorem d_C_copyFrom_26 : decode b_C_copyFrom 26 = .ok (.invokestatic 52, 3) := by decide +kernel
theorem d_C_copyFrom_29 : decode b_C_copyFrom 29 = .ok (.aload_n 1, 1) := by decide +kernel
theorem d_C_copyFrom_30 : decode b_C_copyFrom 30 = .ok (.getfield 18, 3) := by decide +kernel
theorem d_C_copyFrom_33 : decode b_C_copyFrom 33 = .ok (.iconst 0, 1) := by decide +kernel
theorem d_C_copyFrom_34 : decode b_C_copyFrom 34 = .ok (.aload_n 0, 1) := by decide +kernel
theorem d_C_copyFrom_35 : decode b_C_copyFrom 35 = .ok (.getfield 18, 3) := by decide +kernel
theorem d_C_copyFrom_38 : decode b_C_copyFrom 38 = .ok (.iconst 0, 1) := by decide +kernel
theorem d_C_copyFrom_39 : decode b_C_copyFrom 39 = .ok (.bipush 10, 2) := by decide +kernel
theorem d_C_copyFrom_41 : decode b_C_copyFrom 41 = .ok (.invokestatic 52, 3) := by decide +kernel
theorem d_C_copyFrom_44 : decode b_C_copyFrom 44 = .ok (.aload_n 1, 1) := by decide +kernel
theorem d_C_copyFrom_45 : decode b_C_copyFrom 45 = .ok (.getfield 21, 3) := by decide +kernel
theorem d_C_copyFrom_48 : decode b_C_copyFrom 48 = .ok (.iconst 0, 1) := by decide +kernel
theorem d_C_copyFrom_49 : decode b_C_copyFrom 49 = .ok (.aload_n 0, 1) := by decide +kernel
theorem d_C_copyFrom_50 : decode b_C_copyFrom 50 = .ok (.getfield 21, 3) := by decide +kernel
theorem d_C_copyFrom_53 : decode b_C_copyFrom 53 = .ok (.iconst 0, 1) := by decide +kernel
theorem d_C_copyFrom_54 : decode b_C_copyFrom 54 = .ok (.bipush 8, 2) := by decide +kernel
theorem d_C_copyFrom_56 : decode b_C_copyFrom 56 = .ok (.invokestatic 52, 3) := by decide +kernel
theorem d_C_copyFrom_59 : decode b_C_copyFrom 59 = .ok (.aload_n 1, 1) := by decide +kernel
theorem d_C_copyFrom_60 : decode b_C_copyFrom 60 = .ok (.getfield 24, 3) := by decide +kernel
theorem d_C_copyFrom_63 : decode b_C_copyFrom 63 = .ok (.iconst 0, 1) := by decide +kernel
theorem d_C_copyFrom_64 : decode b_C_copyFrom 64 = .ok (.aload_n 0, 1) := by decide +kernel
theorem d_C_copyFrom_65 : decode b_C_copyFrom 65 = .ok (.getfield 24, 3) := by decide +kernel
theorem d_C_copyFrom_68 : decode b_C_copyFrom 68 = .ok (.iconst 0, 1) := by decide +kernel
theorem d_C_copyFrom_69 : decode b_C_copyFrom 69 = .ok (.bipush 8, 2) := by decide +kernel
theorem d_C_copyFrom_71 : decode b_C_copyFrom 71 = .ok (.invokestatic 52, 3) := by decide +kernel
theorem d_C_copyFrom_74 : decode b_C_copyFrom 74 = .ok (.aload_n 1, 1) := by decide +kernel
theorem d_C_copyFrom_75 : decode b_C_copyFrom 75 = .ok (.getfield 27, 3) := by decide +kernel
theorem d_C_copyFrom_78 : decode b_C_copyFrom 78 = .ok (.iconst 0, 1) := by decide +kernel
theorem d_C_copyFrom_79 : decode b_C_copyFrom 79 = .ok (.aload_n 0, 1) := by decide +kernel
theorem d_C_copyFrom_80 : decode b_C_copyFrom 80 = .ok (.getfield 27, 3) := by decide +kernel
theorem d_C_copyFrom_83 : decode b_C_copyFrom 83 = .ok (.iconst 0, 1) := by decide +kernel
theorem d_C_copyFrom_84 : decode b_C_copyFrom 84 = .ok (.bipush 8, 2) := by decide +kernel
theorem d_C_copyFrom_86 : decode b_C_copyFrom 86 = .ok (.invokestatic 52, 3) := by decide +kernel
theorem d_C_copyFrom_89 : decode b_C_copyFrom 89 = .ok (.aload_n 1, 1) := by decide +kernel
theorem d_C_copyFrom_90 : decode b_C_copyFrom 90 = .ok (.getfield 30, 3) := by decide +kernel
theorem d_C_copyFrom_93 : decode b_C_copyFrom 93 = .ok (.iconst 0, 1) := by decide +kernel
theorem d_C_copyFrom_94 : decode b_C_copyFrom 94 = .ok (.aload_n 0, 1) := by decide +kernel
theorem d_C_copyFrom_95 : decode b_C_copyFrom 95 = .ok (.getfield 30, 3) := by decide +kernel
theorem d_C_copyFrom_98 : decode b_C_copyFrom 98 = .ok (.iconst 0, 1) := by decide +kernel
theorem d_C_copyFrom_99 : decode b_C_copyFrom 99 = .ok (.bipush 8, 2) := by decide +kernel
theorem d_C_copyFrom_101 : decode b_C_copyFrom 101 = .ok (.invokestatic 52, 3) := by decide +kernel
theorem d_C_copyFrom_104 : decode b_C_copyFrom 104 = .ok (.aload_n 1, 1) := by decide +kernel
theorem d_C_copyFrom_105 : decode b_C_copyFrom 105 = .ok (.getfield 33, 3) := by decide +kernel
theorem d_C_copyFrom_108 : decode b_C_copyFrom 108 = .ok (.iconst 0, 1) := by decide +kernel
theorem d_C_copyFrom_109 : decode b_C_copyFrom 109 = .ok (.aload_n 0, 1) := by decide +kernel
theorem d_C_copyFrom_110 : decode b_C_copyFrom 110 = .ok (.getfield 33, 3) := by decide +kernel
theorem d_C_copyFrom_113 : decode b_C_copyFrom 113 = .ok (.iconst 0, 1) := by decide +kernel
theorem d_C_copyFrom_114 : decode b_C_copyFrom 114 = .ok (.bipush 8, 2) := by decide +kernel
theorem d_C_copyFrom_116 : decode b_C_copyFrom 116 = .ok (.invokestatic 52, 3) := by decide +kernel
theorem d_C_copyFrom_119 : decode b_C_copyFrom 119 = .ok (.aload_n 0, 1) := by decide +kernel
theorem d_C_copyFrom_120 : decode b_C_copyFrom 120 = .ok (.aload_n 1, 1) := by decide +kernel
theorem d_C_copyFrom_121 : decode b_C_copyFrom 121 = .ok (.getfield 36, 3) := by decide +kernel
theorem d_C_copyFrom_124 : decode b_C_copyFrom 124 = .ok (.putfield 36, 3) := by decide +kernel
theorem d_C_copyFrom_127 : decode b_C_copyFrom 127 = .ok (.aload_n 0, 1) := by decide +kernel
theorem d_C_copyFrom_128 : decode b_C_copyFrom 128 = .ok (.aload_n 1, 1) := by decide +kernel
theorem d_C_copyFrom_129 : decode b_C_copyFrom 129 = .ok (.getfield 40, 3) := by decide +kernel
theorem d_C_copyFrom_132 : decode b_C_copyFrom 132 = .ok (.putfield 40, 3) := by decide +kernel
theorem d_C_copyFrom_135 : decode b_C_copyFrom 135 = .ok (.aload_n 0, 1) := by decide +kernel
theorem d_C_copyFrom_136 : decode b_C_copyFrom 136 = .ok (.aload_n 1, 1) := by decide +kernel
theorem d_C_copyFrom_137 : decode b_C_copyFrom 137 = .ok (.getfield 43, 3) := by decide +kernel
theorem d_C_copyFrom_140 : decode b_C_copyFrom 140 = .ok (.putfield 43, 3) := by decide +kernel
theorem d_C_copyFrom_143 : decode b_C_copyFrom 143 = .ok (.aload_n 0, 1) := by decide +kernel
theorem d_C_copyFrom_144 : decode b_C_copyFrom 144 = .ok (.iconst (-1), 1) := by decide +kernel
theorem d_C_copyFrom_145 : decode b_C_copyFrom 145 = .ok (.putfield 46, 3) := by decide +kernel
theorem d_C_copyFrom_148 : decode b_C_copyFrom 148 = .ok (.return_, 1) := by decide +kernel
theorem d_C_add_0 : decode b_C_add 0 = .ok (.aload_n 0, 1) := by decide +kernel
theorem d_C_add_1 : decode b_C_add 1 = .ok (.getfield 36, 3) := by decide +kernel
theorem d_C_add_4 : decode b_C_add 4 = .ok (.ifCond .lt 12, 3) := by decide +kernel
theorem d_C_add_7 : decode b_C_add 7 = .ok (.aload_n 0, 1) := by decide +kernel
theorem d_C_add_8 : decode b_C_add 8 = .ok (.getfield 36, 3) := by decide +kernel
theorem d_C_add_11 : decode b_C_add 11 = .ok (.bipush 8, 2) := by decide +kernel
theorem d_C_add_13 : decode b_C_add 13 = .ok (.if_icmp .lt 4, 3) := by decide +kernel
theorem d_C_add_16 : decode b_C_add 16 = .ok (.return_, 1) := by decide +kernel
theorem d_C_add_17 : decode b_C_add 17 = .ok (.aload_n 0, 1) := by decide +kernel
theorem d_C_add_18 : decode b_C_add 18 = .ok (.getfield 21, 3) := by decide +kernel
theorem d_C_add_21 : decode b_C_add 21 = .ok (.aload_n 0, 1) := by decide +kernel
theorem d_C_add_22 : decode b_C_add 22 = .ok (.getfield 36, 3) := by decide +kernel
theorem d_C_add_25 : decode b_C_add 25 = .ok (.iload_n 1, 1) := by decide +kernel
theorem d_C_add_26 : decode b_C_add 26 = .ok (.iastore, 1) := by decide +kernel
theorem d_C_add_27 : decode b_C_add 27 = .ok (.aload_n 0, 1) := by decide +kernel
theorem d_C_add_28 : decode b_C_add 28 = .ok (.getfield 24, 3) := by decide +kernel
theorem d_C_add_31 : decode b_C_add 31 = .ok (.aload_n 0, 1) := by decide +kernel
theorem d_C_add_32 : decode b_C_add 32 = .ok (.getfield 36, 3) := by decide +kernel
theorem d_C_add_35 : decode b_C_add 35 = .ok (.iload_n 2, 1) := by decide +kernel
theorem d_C_add_36 : decode b_C_add 36 = .ok (.iastore, 1) := by decide +kernel
theorem d_C_add_37 : decode b_C_add 37 = .ok (.aload_n 0, 1) := by decide +kernel
theorem d_C_add_38 : decode b_C_add 38 = .ok (.getfield 27, 3) := by decide +kernel
theorem d_C_add_41 : decode b_C_add 41 = .ok (.aload_n 0, 1) := by decide +kernel
theorem d_C_add_42 : decode b_C_add 42 = .ok (.getfield 36, 3) := by decide +kernel
theorem d_C_add_45 : decode b_C_add 45 = .ok (.iload_n 3, 1) := by decide +kernel
theorem d_C_add_46 : decode b_C_add 46 = .ok (.iastore, 1) := by decide +kernel
theorem d_C_add_47 : decode b_C_add 47 = .ok (.aload_n 0, 1) := by decide +kernel
theorem d_C_add_48 : decode b_C_add 48 = .ok (.getfield 30, 3) := by decide +kernel
theorem d_C_add_51 : decode b_C_add 51 = .ok (.aload_n 0, 1) := by decide +kernel
theorem d_C_add_52 : decode b_C_add 52 = .ok (.getfield 36, 3) := by decide +kernel
theorem d_C_add_55 : decode b_C_add 55 = .ok (.iload 4, 2) := by decide +kernel
theorem d_C_add_57 : decode b_C_add 57 = .ok (.iastore, 1) := by decide +kernel
theorem d_C_add_58 : decode b_C_add 58 = .ok (.aload_n 0, 1) := by decide +kernel
theorem d_C_add_59 : decode b_C_add 59 = .ok (.getfield 33, 3) := by decide +kernel
theorem d_C_add_62 : decode b_C_add 62 = .ok (.aload_n 0, 1) := by decide +kernel
theorem d_C_add_63 : decode b_C_add 63 = .ok (.getfield 36, 3) := by decide +kernel
theorem d_C_add_66 : decode b_C_add 66 = .ok (.iload 5, 2) := by decide +kernel
theorem d_C_add_68 : decode b_C_add 68 = .ok (.iastore, 1) := by decide +kernel
theorem d_C_add_69 : decode b_C_add 69 = .ok (.aload_n 0, 1) := by decide +kernel
theorem d_C_add_70 : decode b_C_add 70 = .ok (.dup, 1) := by decide +kernel
theorem d_C_add_71 : decode b_C_add 71 = .ok (.getfield 36, 3) := by decide +kernel
theorem d_C_add_74 : decode b_C_add 74 = .ok (.iconst 1, 1) := by decide +kernel
theorem d_C_add_75 : decode b_C_add 75 = .ok (.iadd, 1) := by decide +kernel
theorem d_C_add_76 : decode b_C_add 76 = .ok (.putfield 36, 3) := by decide +kernel
theorem d_C_add_79 : decode b_C_add 79 = .ok (.return_, 1) := by decide +kernel
theorem d_C_still_0 : decode b_C_still 0 = .ok (.iconst 0, 1) := by decide +kernel
theorem d_C_still_1 : decode b_C_still 1 = .ok (.istore_n 2, 1) := by decide +kernel
theorem d_C_still_2 : decode b_C_still 2 = .ok (.iload_n 2, 1) := by decide +kernel
theorem d_C_still_3 : decode b_C_still 3 = .ok (.bipush 10, 2) := by decide +kernel
theorem d_C_still_5 : decode b_C_still 5 = .ok (.if_icmp .ge 25, 3) := by decide +kernel
theorem d_C_still_8 : decode b_C_still 8 = .ok (.iload_n 1, 1) := by decide +kernel
theorem d_C_still_9 : decode b_C_still 9 = .ok (.iload_n 2, 1) := by decide +kernel
theorem d_C_still_10 : decode b_C_still 10 = .ok (.ishr, 1) := by decide +kernel
theorem d_C_still_11 : decode b_C_still 11 = .ok (.iconst 1, 1) := by decide +kernel
theorem d_C_still_12 : decode b_C_still 12 = .ok (.iand, 1) := by decide +kernel
theorem d_C_still_13 : decode b_C_still 13 = .ok (.iconst 1, 1) := by decide +kernel
theorem d_C_still_14 : decode b_C_still 14 = .ok (.if_icmp .ne 10, 3) := by decide +kernel
theorem d_C_still_17 : decode b_C_still 17 = .ok (.aload_n 0, 1) := by decide +kernel
theorem d_C_still_18 : decode b_C_still 18 = .ok (.getfield 15, 3) := by decide +kernel
theorem d_C_still_21 : decode b_C_still 21 = .ok (.iload_n 2, 1) := by decide +kernel
theorem d_C_still_22 : decode b_C_still 22 = .ok (.iconst 0, 1) := by decide +kernel
theorem d_C_still_23 : decode b_C_still 23 = .ok (.iastore, 1) := by decide +kernel
theorem d_C_still_24 : decode b_C_still 24 = .ok (.iinc 2 1, 3) := by decide +kernel
theorem d_C_still_27 : decode b_C_still 27 = .ok (.goto (-25), 3) := by decide +kernel
theorem d_C_still_30 : decode b_C_still 30 = .ok (.return_, 1) := by decide +kernel
theorem d_C_hasLanded_0 : decode b_C_hasLanded 0 = .ok (.aload_n 0, 1) := by decide +kernel
theorem d_C_hasLanded_1 : decode b_C_hasLanded 1 = .ok (.getfield 30, 3) := by decide +kernel
theorem d_C_hasLanded_4 : decode b_C_hasLanded 4 = .ok (.iload_n 1, 1) := by decide +kernel
theorem d_C_hasLanded_5 : decode b_C_hasLanded 5 = .ok (.iaload, 1) := by decide +kernel
theorem d_C_hasLanded_6 : decode b_C_hasLanded 6 = .ok (.aload_n 0, 1) := by decide +kernel
theorem d_C_hasLanded_7 : decode b_C_hasLanded 7 = .ok (.getfield 33, 3) := by decide +kernel
theorem d_C_hasLanded_10 : decode b_C_hasLanded 10 = .ok (.iload_n 1, 1) := by decide +kernel
theorem d_C_hasLanded_11 : decode b_C_hasLanded 11 = .ok (.iaload, 1) := by decide +kernel
theorem d_C_hasLanded_12 : decode b_C_hasLanded 12 = .ok (.if_icmp .ne 7, 3) := by decide +kernel
theorem d_C_hasLanded_15 : decode b_C_hasLanded 15 = .ok (.iconst 1, 1) := by decide +kernel
theorem d_C_hasLanded_16 : decode b_C_hasLanded 16 = .ok (.goto 4, 3) := by decide +kernel
theorem d_C_hasLanded_19 : decode b_C_hasLanded 19 = .ok (.iconst 0, 1) := by decide +kernel
theorem d_C_hasLanded_20 : decode b_C_hasLanded 20 = .ok (.ireturn, 1) := by decide +kernel
theorem d_C_landedSet_0 : decode b_C_landedSet 0 = .ok (.iconst 0, 1) := by decide +kernel
theorem d_C_landedSet_1 : decode b_C_landedSet 1 = .ok (.istore_n 1, 1) := by decide +kernel
theorem d_C_landedSet_2 : decode b_C_landedSet 2 = .ok (.iconst 0, 1) := by decide +kernel
theorem d_C_landedSet_3 : decode b_C_landedSet 3 = .ok (.istore_n 2, 1) := by decide +kernel
theorem d_C_landedSet_4 : decode b_C_landedSet 4 = .ok (.iload_n 2, 1) := by decide +kernel
theorem d_C_landedSet_5 : decode b_C_landedSet 5 = .ok (.aload_n 0, 1) := by decide +kernel
theorem d_C_landedSet_6 : decode b_C_landedSet 6 = .ok (.getfield 36, 3) := by decide +kernel
theorem d_C_landedSet_9 : decode b_C_landedSet 9 = .ok (.if_icmp .ge 29, 3) := by decide +kernel
theorem d_C_landedSet_12 : decode b_C_landedSet 12 = .ok (.iload_n 2, 1) := by decide +kernel
theorem d_C_landedSet_13 : decode b_C_landedSet 13 = .ok (.bipush 8, 2) := by decide +kernel
theorem d_C_landedSet_15 : decode b_C_landedSet 15 = .ok (.if_icmp .ge 23, 3) := by decide +kernel
theorem d_C_landedSet_18 : decode b_C_landedSet 18 = .ok (.aload_n 0, 1) := by decide +kernel
theorem d_C_landedSet_19 : decode b_C_landedSet 19 = .ok (.iload_n 2, 1) := by decide +kernel
theorem d_C_landedSet_20 : decode b_C_landedSet 20 = .ok (.invokevirtual 79, 3) := by decide +kernel
theorem d_C_landedSet_23 : decode b_C_landedSet 23 = .ok (.ifCond .eq 9, 3) := by decide +kernel
theorem d_C_landedSet_26 : decode b_C_landedSet 26 = .ok (.iload_n 1, 1) := by decide +kernel
theorem d_C_landedSet_27 : decode b_C_landedSet 27 = .ok (.iconst 1, 1) := by decide +kernel
theorem d_C_landedSet_28 : decode b_C_landedSet 28 = .ok (.iload_n 2, 1) := by decide +kernel
theorem d_C_landedSet_29 : decode b_C_landedSet 29 = .ok (.ishl, 1) := by decide +kernel
theorem d_C_landedSet_30 : decode b_C_landedSet 30 = .ok (.ior, 1) := by decide +kernel
theorem d_C_landedSet_31 : decode b_C_landedSet 31 = .ok (.istore_n 1, 1) := by decide +kernel
theorem d_C_landedSet_32 : decode b_C_landedSet 32 = .ok (.iinc 2 1, 3) := by decide +kernel
theorem d_C_landedSet_35 : decode b_C_landedSet 35 = .ok (.goto (-31), 3) := by decide +kernel
theorem d_C_landedSet_38 : decode b_C_landedSet 38 = .ok (.iload_n 1, 1) := by decide +kernel
theorem d_C_landedSet_39 : decode b_C_landedSet 39 = .ok (.ireturn, 1) := by decide +kernel
theorem d_C_allLanded_0 : decode b_C_allLanded 0 = .ok (.aload_n 0, 1) := by decide +kernel
theorem d_C_allLanded_1 : decode b_C_allLanded 1 = .ok (.invokevirtual 64, 3) := by decide +kernel
theorem d_C_allLanded_4 : decode b_C_allLanded 4 = .ok (.iconst 1, 1) := by decide +kernel
theorem d_C_allLanded_5 : decode b_C_allLanded 5 = .ok (.aload_n 0, 1) := by decide +kernel
theorem d_C_allLanded_6 : decode b_C_allLanded 6 = .ok (.getfield 36, 3) := by decide +kernel
theorem d_C_allLanded_9 : decode b_C_allLanded 9 = .ok (.ishl, 1) := by decide +kernel
theorem d_C_allLanded_10 : decode b_C_allLanded 10 = .ok (.iconst 1, 1) := by decide +kernel
theorem d_C_allLanded_11 : decode b_C_allLanded 11 = .ok (.isub, 1) := by decide +kernel
theorem d_C_allLanded_12 : decode b_C_allLanded 12 = .ok (.if_icmp .ne 7, 3) := by decide +kernel
theorem d_C_allLanded_15 : decode b_C_allLanded 15 = .ok (.iconst 1, 1) := by decide +kernel
theorem d_C_allLanded_16 : decode b_C_allLanded 16 = .ok (.goto 4, 3) := by decide +kernel
theorem d_C_allLanded_19 : decode b_C_allLanded 19 = .ok (.iconst 0, 1) := by decide +kernel
theorem d_C_allLanded_20 : decode b_C_allLanded 20 = .ok (.ireturn, 1) := by decide +kernel
theorem d_C_noiseAt_0 : decode b_C_noiseAt 0 = .ok (.iload_n 1, 1) := by decide +kernel
theorem d_C_noiseAt_1 : decode b_C_noiseAt 1 = .ok (.invokestatic 68, 3) := by decide +kernel
theorem d_C_noiseAt_4 : decode b_C_noiseAt 4 = .ok (.ifCond .eq 12, 3) := by decide +kernel
theorem d_C_noiseAt_7 : decode b_C_noiseAt 7 = .ok (.aload_n 0, 1) := by decide +kernel
theorem d_C_noiseAt_8 : decode b_C_noiseAt 8 = .ok (.getfield 15, 3) := by decide +kernel
theorem d_C_noiseAt_11 : decode b_C_noiseAt 11 = .ok (.iload_n 1, 1) := by decide +kernel
theorem d_C_noiseAt_12 : decode b_C_noiseAt 12 = .ok (.iaload, 1) := by decide +kernel
theorem d_C_noiseAt_13 : decode b_C_noiseAt 13 = .ok (.goto 4, 3) := by decide +kernel
theorem d_C_noiseAt_16 : decode b_C_noiseAt 16 = .ok (.iconst 0, 1) := by decide +kernel
theorem d_C_noiseAt_17 : decode b_C_noiseAt 17 = .ok (.ireturn, 1) := by decide +kernel
theorem d_C_paceOf_0 : decode b_C_paceOf 0 = .ok (.aload_n 0, 1) := by decide +kernel
theorem d_C_paceOf_1 : decode b_C_paceOf 1 = .ok (.getfield 21, 3) := by decide +kernel
theorem d_C_paceOf_4 : decode b_C_paceOf 4 = .ok (.iload_n 1, 1) := by decide +kernel
theorem d_C_paceOf_5 : decode b_C_paceOf 5 = .ok (.iaload, 1) := by decide +kernel
theorem d_C_paceOf_6 : decode b_C_paceOf 6 = .ok (.tableswitch 50 2 5 #[30, 30, 32, 41], 30) := by decide +kernel
theorem d_C_paceOf_36 : decode b_C_paceOf 36 = .ok (.iconst 2, 1) := by decide +kernel
theorem d_C_paceOf_37 : decode b_C_paceOf 37 = .ok (.ireturn, 1) := by decide +kernel
theorem d_C_paceOf_38 : decode b_C_paceOf 38 = .ok (.iconst 2, 1) := by decide +kernel
theorem d_C_paceOf_39 : decode b_C_paceOf 39 = .ok (.aload_n 0, 1) := by decide +kernel
theorem d_C_paceOf_40 : decode b_C_paceOf 40 = .ok (.getfield 40, 3) := by decide +kernel
theorem d_C_paceOf_43 : decode b_C_paceOf 43 = .ok (.iconst 1, 1) := by decide +kernel
theorem d_C_paceOf_44 : decode b_C_paceOf 44 = .ok (.iand, 1) := by decide +kernel
theorem d_C_paceOf_45 : decode b_C_paceOf 45 = .ok (.isub, 1) := by decide +kernel
theorem d_C_paceOf_46 : decode b_C_paceOf 46 = .ok (.ireturn, 1) := by decide +kernel
theorem d_C_paceOf_47 : decode b_C_paceOf 47 = .ok (.iconst 1, 1) := by decide +kernel
theorem d_C_paceOf_48 : decode b_C_paceOf 48 = .ok (.aload_n 0, 1) := by decide +kernel
theorem d_C_paceOf_49 : decode b_C_paceOf 49 = .ok (.getfield 9, 3) := by decide +kernel
theorem d_C_paceOf_52 : decode b_C_paceOf 52 = .ok (.iconst 2, 1) := by decide +kernel
theorem d_C_paceOf_53 : decode b_C_paceOf 53 = .ok (.iaload, 1) := by decide +kernel
theorem d_C_paceOf_54 : decode b_C_paceOf 54 = .ok (.iadd, 1) := by decide +kernel
theorem d_C_paceOf_55 : decode b_C_paceOf 55 = .ok (.ireturn, 1) := by decide +kernel
theorem d_C_paceOf_56 : decode b_C_paceOf 56 = .ok (.iconst 1, 1) := by decide +kernel
theorem d_C_paceOf_57 : decode b_C_paceOf 57 = .ok (.ireturn, 1) := by decide +kernel
theorem d_C_spillOf_0 : decode b_C_spillOf 0 = .ok (.aload_n 0, 1) := by decide +kernel
theorem d_C_spillOf_1 : decode b_C_spillOf 1 = .ok (.getfield 21, 3) := by decide +kernel
theorem d_C_spillOf_4 : decode b_C_spillOf 4 = .ok (.iload_n 1, 1) := by decide +kernel
theorem d_C_spillOf_5 : decode b_C_spillOf 5 = .ok (.iaload, 1) := by decide +kernel
theorem d_C_spillOf_6 : decode b_C_spillOf 6 = .ok (.tableswitch 84 1 5 #[34, 49, 38, 53, 67], 34) := by decide +kernel
theorem d_C_spillOf_40 : decode b_C_spillOf 40 = .ok (.iload_n 2, 1) := by decide +kernel
theorem d_C_spillOf_41 : decode b_C_spillOf 41 = .ok (.iconst 2, 1) := by decide +kernel
theorem d_C_spillOf_42 : decode b_C_spillOf 42 = .ok (.idiv, 1) := by decide +kernel
theorem d_C_spillOf_43 : decode b_C_spillOf 43 = .ok (.ireturn, 1) := by decide +kernel
theorem d_C_spillOf_44 : decode b_C_spillOf 44 = .ok (.iload_n 2, 1) := by decide +kernel
theorem d_C_spillOf_45 : decode b_C_spillOf 45 = .ok (.iconst 2, 1) := by decide +kernel
theorem d_C_spillOf_46 : decode b_C_spillOf 46 = .ok (.idiv, 1) := by decide +kernel
theorem d_C_spillOf_47 : decode b_C_spillOf 47 = .ok (.aload_n 0, 1) := by decide +kernel
theorem d_C_spillOf_48 : decode b_C_spillOf 48 = .ok (.getfield 9, 3) := by decide +kernel
theorem d_C_spillOf_51 : decode b_C_spillOf 51 = .ok (.iconst 1, 1) := by decide +kernel
theorem d_C_spillOf_52 : decode b_C_spillOf 52 = .ok (.iaload, 1) := by decide +kernel
theorem d_C_spillOf_53 : decode b_C_spillOf 53 = .ok (.isub, 1) := by decide +kernel
theorem d_C_spillOf_54 : decode b_C_spillOf 54 = .ok (.ireturn, 1) := by decide +kernel
theorem d_C_spillOf_55 : decode b_C_spillOf 55 = .ok (.iload_n 2, 1) := by decide +kernel
theorem d_C_spillOf_56 : decode b_C_spillOf 56 = .ok (.iconst 1, 1) := by decide +kernel
theorem d_C_spillOf_57 : decode b_C_spillOf 57 = .ok (.isub, 1) := by decide +kernel
theorem d_C_spillOf_58 : decode b_C_spillOf 58 = .ok (.ireturn, 1) := by decide +kernel
theorem d_C_spillOf_59 : decode b_C_spillOf 59 = .ok (.iload_n 2, 1) := by decide +kernel
theorem d_C_spillOf_60 : decode b_C_spillOf 60 = .ok (.iconst 1, 1) := by decide +kernel
theorem d_C_spillOf_61 : decode b_C_spillOf 61 = .ok (.isub, 1) := by decide +kernel
theorem d_C_spillOf_62 : decode b_C_spillOf 62 = .ok (.aload_n 0, 1) := by decide +kernel
theorem d_C_spillOf_63 : decode b_C_spillOf 63 = .ok (.getfield 24, 3) := by decide +kernel
theorem d_C_spillOf_66 : decode b_C_spillOf 66 = .ok (.iload_n 1, 1) := by decide +kernel
theorem d_C_spillOf_67 : decode b_C_spillOf 67 = .ok (.iaload, 1) := by decide +kernel
theorem d_C_spillOf_68 : decode b_C_spillOf 68 = .ok (.bipush 10, 2) := by decide +kernel
theorem d_C_spillOf_70 : decode b_C_spillOf 70 = .ok (.idiv, 1) := by decide +kernel
theorem d_C_spillOf_71 : decode b_C_spillOf 71 = .ok (.iadd, 1) := by decide +kernel
theorem d_C_spillOf_72 : decode b_C_spillOf 72 = .ok (.ireturn, 1) := by decide +kernel
theorem d_C_spillOf_73 : decode b_C_spillOf 73 = .ok (.aload_n 0, 1) := by decide +kernel
theorem d_C_spillOf_74 : decode b_C_spillOf 74 = .ok (.getfield 40, 3) := by decide +kernel
theorem d_C_spillOf_77 : decode b_C_spillOf 77 = .ok (.iconst 3, 1) := by decide +kernel
theorem d_C_spillOf_78 : decode b_C_spillOf 78 = .ok (.irem, 1) := by decide +kernel
theorem d_C_spillOf_79 : decode b_C_spillOf 79 = .ok (.ifCond .ne 9, 3) := by decide +kernel
theorem d_C_spillOf_82 : decode b_C_spillOf 82 = .ok (.iload_n 2, 1) := by decide +kernel
theorem d_C_spillOf_83 : decode b_C_spillOf 83 = .ok (.iconst 2, 1) := by decide +kernel
theorem d_C_spillOf_84 : decode b_C_spillOf 84 = .ok (.imul, 1) := by decide +kernel
theorem d_C_spillOf_85 : decode b_C_spillOf 85 = .ok (.goto 4, 3) := by decide +kernel
theorem d_C_spillOf_88 : decode b_C_spillOf 88 = .ok (.iconst 0, 1) := by decide +kernel
theorem d_C_spillOf_89 : decode b_C_spillOf 89 = .ok (.ireturn, 1) := by decide +kernel
theorem d_C_spillOf_90 : decode b_C_spillOf 90 = .ok (.iload_n 2, 1) := by decide +kernel
theorem d_C_spillOf_91 : decode b_C_spillOf 91 = .ok (.ireturn, 1) := by decide +kernel
theorem d_C_spill_0 : decode b_C_spill 0 = .ok (.aload_n 0, 1) := by decide +kernel
theorem d_C_spill_1 : decode b_C_spill 1 = .ok (.getfield 24, 3) := by decide +kernel
theorem d_C_spill_4 : decode b_C_spill 4 = .ok (.iload_n 1, 1) := by decide +kernel
theorem d_C_spill_5 : decode b_C_spill 5 = .ok (.iaload, 1) := by decide +kernel
theorem d_C_spill_6 : decode b_C_spill 6 = .ok (.istore 4, 2) := by decide +kernel
theorem d_C_spill_8 : decode b_C_spill 8 = .ok (.aload_n 0, 1) := by decide +kernel
theorem d_C_spill_9 : decode b_C_spill 9 = .ok (.getfield 24, 3) := by decide +kernel
theorem d_C_spill_12 : decode b_C_spill 12 = .ok (.iload_n 1, 1) := by decide +kernel
theorem d_C_spill_13 : decode b_C_spill 13 = .ok (.iload 4, 2) := by decide +kernel
theorem d_C_spill_15 : decode b_C_spill 15 = .ok (.iload_n 3, 1) := by decide +kernel
theorem d_C_spill_16 : decode b_C_spill 16 = .ok (.isub, 1) := by decide +kernel
theorem d_C_spill_17 : decode b_C_spill 17 = .ok (.invokestatic 104, 3) := by decide +kernel
theorem d_C_spill_20 : decode b_C_spill 20 = .ok (.iastore, 1) := by decide +kernel
theorem d_C_spill_21 : decode b_C_spill 21 = .ok (.aload_n 0, 1) := by decide +kernel
theorem d_C_spill_22 : decode b_C_spill 22 = .ok (.getfield 24, 3) := by decide +kernel
theorem d_C_spill_25 : decode b_C_spill 25 = .ok (.iload_n 1, 1) := by decide +kernel
theorem d_C_spill_26 : decode b_C_spill 26 = .ok (.iaload, 1) := by decide +kernel
theorem d_C_spill_27 : decode b_C_spill 27 = .ok (.iload 4, 2) := by decide +kernel
theorem d_C_spill_29 : decode b_C_spill 29 = .ok (.if_icmp .ge 38, 3) := by decide +kernel
theorem d_C_spill_32 : decode b_C_spill 32 = .ok (.iload_n 2, 1) := by decide +kernel
theorem d_C_spill_33 : decode b_C_spill 33 = .ok (.invokestatic 68, 3) := by decide +kernel
theorem d_C_spill_36 : decode b_C_spill 36 = .ok (.ifCond .eq 31, 3) := by decide +kernel
theorem d_C_spill_39 : decode b_C_spill 39 = .ok (.aload_n 0, 1) := by decide +kernel
theorem d_C_spill_40 : decode b_C_spill 40 = .ok (.getfield 18, 3) := by decide +kernel
theorem d_C_spill_43 : decode b_C_spill 43 = .ok (.iload_n 2, 1) := by decide +kernel
theorem d_C_spill_44 : decode b_C_spill 44 = .ok (.sipush 9999, 3) := by decide +kernel
theorem d_C_spill_47 : decode b_C_spill 47 = .ok (.aload_n 0, 1) := by decide +kernel
theorem d_C_spill_48 : decode b_C_spill 48 = .ok (.getfield 18, 3) := by decide +kernel
theorem d_C_spill_51 : decode b_C_spill 51 = .ok (.iload_n 2, 1) := by decide +kernel
theorem d_C_spill_52 : decode b_C_spill 52 = .ok (.iaload, 1) := by decide +kernel
theorem d_C_spill_53 : decode b_C_spill 53 = .ok (.iload 4, 2) := by decide +kernel
theorem d_C_spill_55 : decode b_C_spill 55 = .ok (.iadd, 1) := by decide +kernel
theorem d_C_spill_56 : decode b_C_spill 56 = .ok (.aload_n 0, 1) := by decide +kernel
theorem d_C_spill_57 : decode b_C_spill 57 = .ok (.getfield 24, 3) := by decide +kernel
theorem d_C_spill_60 : decode b_C_spill 60 = .ok (.iload_n 1, 1) := by decide +kernel
theorem d_C_spill_61 : decode b_C_spill 61 = .ok (.iaload, 1) := by decide +kernel
theorem d_C_spill_62 : decode b_C_spill 62 = .ok (.isub, 1) := by decide +kernel
theorem d_C_spill_63 : decode b_C_spill 63 = .ok (.invokestatic 107, 3) := by decide +kernel
theorem d_C_spill_66 : decode b_C_spill 66 = .ok (.iastore, 1) := by decide +kernel
theorem d_C_spill_67 : decode b_C_spill 67 = .ok (.return_, 1) := by decide +kernel
theorem d_C_goOn_0 : decode b_C_goOn 0 = .ok (.aload_n 0, 1) := by decide +kernel
theorem d_C_goOn_1 : decode b_C_goOn 1 = .ok (.iload_n 1, 1) := by decide +kernel
theorem d_C_goOn_2 : decode b_C_goOn 2 = .ok (.invokevirtual 89, 3) := by decide +kernel
theorem d_C_goOn_5 : decode b_C_goOn 5 = .ok (.istore_n 2, 1) := by decide +kernel
theorem d_C_goOn_6 : decode b_C_goOn 6 = .ok (.iconst 0, 1) := by decide +kernel
theorem d_C_goOn_7 : decode b_C_goOn 7 = .ok (.istore_n 3, 1) := by decide +kernel
theorem d_C_goOn_8 : decode b_C_goOn 8 = .ok (.iload_n 3, 1) := by decide +kernel
theorem d_C_goOn_9 : decode b_C_goOn 9 = .ok (.iload_n 2, 1) := by decide +kernel
theorem d_C_goOn_10 : decode b_C_goOn 10 = .ok (.if_icmp .ge 72, 3) := by decide +kernel
theorem d_C_goOn_13 : decode b_C_goOn 13 = .ok (.aload_n 0, 1) := by decide +kernel
theorem d_C_goOn_14 : decode b_C_goOn 14 = .ok (.iload_n 1, 1) := by decide +kernel
theorem d_C_goOn_15 : decode b_C_goOn 15 = .ok (.invokevirtual 79, 3) := by decide +kernel
theorem d_C_goOn_18 : decode b_C_goOn 18 = .ok (.ifCond .ne 64, 3) := by decide +kernel
theorem d_C_goOn_21 : decode b_C_goOn 21 = .ok (.aload_n 0, 1) := by decide +kernel
theorem d_C_goOn_22 : decode b_C_goOn 22 = .ok (.getfield 30, 3) := by decide +kernel
theorem d_C_goOn_25 : decode b_C_goOn 25 = .ok (.iload_n 1, 1) := by decide +kernel
theorem d_C_goOn_26 : decode b_C_goOn 26 = .ok (.iaload, 1) := by decide +kernel
theorem d_C_goOn_27 : decode b_C_goOn 27 = .ok (.aload_n 0, 1) := by decide +kernel
theorem d_C_goOn_28 : decode b_C_goOn 28 = .ok (.getfield 33, 3) := by decide +kernel
theorem d_C_goOn_31 : decode b_C_goOn 31 = .ok (.iload_n 1, 1) := by decide +kernel
theorem d_C_goOn_32 : decode b_C_goOn 32 = .ok (.iaload, 1) := by decide +kernel
theorem d_C_goOn_33 : decode b_C_goOn 33 = .ok (.aload_n 0, 1) := by decide +kernel
theorem d_C_goOn_34 : decode b_C_goOn 34 = .ok (.getfield 30, 3) := by decide +kernel
theorem d_C_goOn_37 : decode b_C_goOn 37 = .ok (.iload_n 1, 1) := by decide +kernel
theorem d_C_goOn_38 : decode b_C_goOn 38 = .ok (.iaload, 1) := by decide +kernel
theorem d_C_goOn_39 : decode b_C_goOn 39 = .ok (.if_icmp .le 7, 3) := by decide +kernel
theorem d_C_goOn_42 : decode b_C_goOn 42 = .ok (.iconst 1, 1) := by decide +kernel
theorem d_C_goOn_43 : decode b_C_goOn 43 = .ok (.goto 4, 3) := by decide +kernel
theorem d_C_goOn_46 : decode b_C_goOn 46 = .ok (.iconst (-1), 1) := by decide +kernel
theorem d_C_goOn_47 : decode b_C_goOn 47 = .ok (.iadd, 1) := by decide +kernel
theorem d_C_goOn_48 : decode b_C_goOn 48 = .ok (.istore 4, 2) := by decide +kernel
theorem d_C_goOn_50 : decode b_C_goOn 50 = .ok (.aload_n 0, 1) := by decide +kernel
theorem d_C_goOn_51 : decode b_C_goOn 51 = .ok (.getfield 30, 3) := by decide +kernel
theorem d_C_goOn_54 : decode b_C_goOn 54 = .ok (.iload_n 1, 1) := by decide +kernel
theorem d_C_goOn_55 : decode b_C_goOn 55 = .ok (.iload 4, 2) := by decide +kernel
theorem d_C_goOn_57 : decode b_C_goOn 57 = .ok (.iastore, 1) := by decide +kernel
theorem d_C_goOn_58 : decode b_C_goOn 58 = .ok (.aload_n 0, 1) := by decide +kernel
theorem d_C_goOn_59 : decode b_C_goOn 59 = .ok (.iload_n 1, 1) := by decide +kernel
theorem d_C_goOn_60 : decode b_C_goOn 60 = .ok (.iload 4, 2) := by decide +kernel
theorem d_C_goOn_62 : decode b_C_goOn 62 = .ok (.aload_n 0, 1) := by decide +kernel
theorem d_C_goOn_63 : decode b_C_goOn 63 = .ok (.iload_n 1, 1) := by decide +kernel
theorem d_C_goOn_64 : decode b_C_goOn 64 = .ok (.aload_n 0, 1) := by decide +kernel
theorem d_C_goOn_65 : decode b_C_goOn 65 = .ok (.iload 4, 2) := by decide +kernel
theorem d_C_goOn_67 : decode b_C_goOn 67 = .ok (.invokevirtual 93, 3) := by decide +kernel
theorem d_C_goOn_70 : decode b_C_goOn 70 = .ok (.invokevirtual 96, 3) := by decide +kernel
theorem d_C_goOn_73 : decode b_C_goOn 73 = .ok (.invokevirtual 100, 3) := by decide +kernel
theorem d_C_goOn_76 : decode b_C_goOn 76 = .ok (.iinc 3 1, 3) := by decide +kernel
theorem d_C_goOn_79 : decode b_C_goOn 79 = .ok (.goto (-71), 3) := by decide +kernel
theorem d_C_goOn_82 : decode b_C_goOn 82 = .ok (.return_, 1) := by decide +kernel
theorem d_C_echoWithOthers_0 : decode b_C_echoWithOthers 0 = .ok (.aload_n 0, 1) := by decide +kernel
theorem d_C_echoWithOthers_1 : decode b_C_echoWithOthers 1 = .ok (.getfield 30, 3) := by decide +kernel
theorem d_C_echoWithOthers_4 : decode b_C_echoWithOthers 4 = .ok (.iload_n 1, 1) := by decide +kernel
theorem d_C_echoWithOthers_5 : decode b_C_echoWithOthers 5 = .ok (.iaload, 1) := by decide +kernel
theorem d_C_echoWithOthers_6 : decode b_C_echoWithOthers 6 = .ok (.istore_n 2, 1) := by decide +kernel
theorem d_C_echoWithOthers_7 : decode b_C_echoWithOthers 7 = .ok (.iconst 0, 1) := by decide +kernel
theorem d_C_echoWithOthers_8 : decode b_C_echoWithOthers 8 = .ok (.istore_n 3, 1) := by decide +kernel
theorem d_C_echoWithOthers_9 : decode b_C_echoWithOthers 9 = .ok (.iload_n 3, 1) := by decide +kernel
theorem d_C_echoWithOthers_10 : decode b_C_echoWithOthers 10 = .ok (.aload_n 0, 1) := by decide +kernel
theorem d_C_echoWithOthers_11 : decode b_C_echoWithOthers 11 = .ok (.getfield 36, 3) := by decide +kernel
theorem d_C_echoWithOthers_14 : decode b_C_echoWithOthers 14 = .ok (.if_icmp .ge 77, 3) := by decide +kernel
theorem d_C_echoWithOthers_17 : decode b_C_echoWithOthers 17 = .ok (.iload_n 3, 1) := by decide +kernel
theorem d_C_echoWithOthers_18 : decode b_C_echoWithOthers 18 = .ok (.bipush 8, 2) := by decide +kernel
theorem d_C_echoWithOthers_20 : decode b_C_echoWithOthers 20 = .ok (.if_icmp .ge 71, 3) := by decide +kernel
theorem d_C_echoWithOthers_23 : decode b_C_echoWithOthers 23 = .ok (.aload_n 0, 1) := by decide +kernel
theorem d_C_echoWithOthers_24 : decode b_C_echoWithOthers 24 = .ok (.getfield 30, 3) := by decide +kernel
theorem d_C_echoWithOthers_27 : decode b_C_echoWithOthers 27 = .ok (.iload_n 3, 1) := by decide +kernel
theorem d_C_echoWithOthers_28 : decode b_C_echoWithOthers 28 = .ok (.iaload, 1) := by decide +kernel
theorem d_C_echoWithOthers_29 : decode b_C_echoWithOthers 29 = .ok (.iload_n 2, 1) := by decide +kernel
theorem d_C_echoWithOthers_30 : decode b_C_echoWithOthers 30 = .ok (.if_icmp .ne 55, 3) := by decide +kernel
theorem d_C_echoWithOthers_33 : decode b_C_echoWithOthers 33 = .ok (.iload_n 3, 1) := by decide +kernel
theorem d_C_echoWithOthers_34 : decode b_C_echoWithOthers 34 = .ok (.iload_n 1, 1) := by decide +kernel
theorem d_C_echoWithOthers_35 : decode b_C_echoWithOthers 35 = .ok (.if_icmp .eq 50, 3) := by decide +kernel
theorem d_C_echoWithOthers_38 : decode b_C_echoWithOthers 38 = .ok (.aload_n 0, 1) := by decide +kernel
theorem d_C_echoWithOthers_39 : decode b_C_echoWithOthers 39 = .ok (.getfield 27, 3) := by decide +kernel
theorem d_C_echoWithOthers_42 : decode b_C_echoWithOthers 42 = .ok (.iload_n 3, 1) := by decide +kernel
theorem d_C_echoWithOthers_43 : decode b_C_echoWithOthers 43 = .ok (.iaload, 1) := by decide +kernel
theorem d_C_echoWithOthers_44 : decode b_C_echoWithOthers 44 = .ok (.aload_n 0, 1) := by decide +kernel
theorem d_C_echoWithOthers_45 : decode b_C_echoWithOthers 45 = .ok (.getfield 27, 3) := by decide +kernel
theorem d_C_echoWithOthers_48 : decode b_C_echoWithOthers 48 = .ok (.iload_n 1, 1) := by decide +kernel
theorem d_C_echoWithOthers_49 : decode b_C_echoWithOthers 49 = .ok (.iaload, 1) := by decide +kernel
theorem d_C_echoWithOthers_50 : decode b_C_echoWithOthers 50 = .ok (.if_icmp .eq 35, 3) := by decide +kernel
theorem d_C_echoWithOthers_53 : decode b_C_echoWithOthers 53 = .ok (.aload_n 0, 1) := by decide +kernel
theorem d_C_echoWithOthers_54 : decode b_C_echoWithOthers 54 = .ok (.iload_n 3, 1) := by decide +kernel
theorem d_C_echoWithOthers_55 : decode b_C_echoWithOthers 55 = .ok (.invokevirtual 79, 3) := by decide +kernel
theorem d_C_echoWithOthers_58 : decode b_C_echoWithOthers 58 = .ok (.ifCond .ne 27, 3) := by decide +kernel
theorem d_C_echoWithOthers_61 : decode b_C_echoWithOthers 61 = .ok (.aload_n 0, 1) := by decide +kernel
theorem d_C_echoWithOthers_62 : decode b_C_echoWithOthers 62 = .ok (.iload_n 1, 1) := by decide +kernel
theorem d_C_echoWithOthers_63 : decode b_C_echoWithOthers 63 = .ok (.iload_n 2, 1) := by decide +kernel
theorem d_C_echoWithOthers_64 : decode b_C_echoWithOthers 64 = .ok (.aload_n 0, 1) := by decide +kernel
theorem d_C_echoWithOthers_65 : decode b_C_echoWithOthers 65 = .ok (.getfield 9, 3) := by decide +kernel
theorem d_C_echoWithOthers_68 : decode b_C_echoWithOthers 68 = .ok (.iconst 0, 1) := by decide +kernel
theorem d_C_echoWithOthers_69 : decode b_C_echoWithOthers 69 = .ok (.iaload, 1) := by decide +kernel
theorem d_C_echoWithOthers_70 : decode b_C_echoWithOthers 70 = .ok (.invokevirtual 100, 3) := by decide +kernel
theorem d_C_echoWithOthers_73 : decode b_C_echoWithOthers 73 = .ok (.aload_n 0, 1) := by decide +kernel
theorem d_C_echoWithOthers_74 : decode b_C_echoWithOthers 74 = .ok (.iload_n 3, 1) := by decide +kernel
theorem d_C_echoWithOthers_75 : decode b_C_echoWithOthers 75 = .ok (.iload_n 2, 1) := by decide +kernel
theorem d_C_echoWithOthers_76 : decode b_C_echoWithOthers 76 = .ok (.aload_n 0, 1) := by decide +kernel
theorem d_C_echoWithOthers_77 : decode b_C_echoWithOthers 77 = .ok (.getfield 9, 3) := by decide +kernel
theorem d_C_echoWithOthers_80 : decode b_C_echoWithOthers 80 = .ok (.iconst 0, 1) := by decide +kernel
theorem d_C_echoWithOthers_81 : decode b_C_echoWithOthers 81 = .ok (.iaload, 1) := by decide +kernel
theorem d_C_echoWithOthers_82 : decode b_C_echoWithOthers 82 = .ok (.invokevirtual 100, 3) := by decide +kernel
theorem d_C_echoWithOthers_85 : decode b_C_echoWithOthers 85 = .ok (.iinc 3 1, 3) := by decide +kernel
theorem d_C_echoWithOthers_88 : decode b_C_echoWithOthers 88 = .ok (.goto (-79), 3) := by decide +kernel
theorem d_C_echoWithOthers_91 : decode b_C_echoWithOthers 91 = .ok (.return_, 1) := by decide +kernel
theorem d_C_passHour_0 : decode b_C_passHour 0 = .ok (.iconst 0, 1) := by decide +kernel
theorem d_C_passHour_1 : decode b_C_passHour 1 = .ok (.istore_n 1, 1) := by decide +kernel
theorem d_C_passHour_2 : decode b_C_passHour 2 = .ok (.iload_n 1, 1) := by decide +kernel
theorem d_C_passHour_3 : decode b_C_passHour 3 = .ok (.aload_n 0, 1) := by decide +kernel
theorem d_C_passHour_4 : decode b_C_passHour 4 = .ok (.getfield 36, 3) := by decide +kernel
theorem d_C_passHour_7 : decode b_C_passHour 7 = .ok (.if_icmp .ge 41, 3) := by decide +kernel
theorem d_C_passHour_10 : decode b_C_passHour 10 = .ok (.iload_n 1, 1) := by decide +kernel
theorem d_C_passHour_11 : decode b_C_passHour 11 = .ok (.bipush 8, 2) := by decide +kernel
theorem d_C_passHour_13 : decode b_C_passHour 13 = .ok (.if_icmp .ge 35, 3) := by decide +kernel
theorem d_C_passHour_16 : decode b_C_passHour 16 = .ok (.iload_n 1, 1) := by decide +kernel
theorem d_C_passHour_17 : decode b_C_passHour 17 = .ok (.aload_n 0, 1) := by decide +kernel
theorem d_C_passHour_18 : decode b_C_passHour 18 = .ok (.getfield 46, 3) := by decide +kernel
theorem d_C_passHour_21 : decode b_C_passHour 21 = .ok (.if_icmp .eq 21, 3) := by decide +kernel
theorem d_C_passHour_24 : decode b_C_passHour 24 = .ok (.aload_n 0, 1) := by decide +kernel
theorem d_C_passHour_25 : decode b_C_passHour 25 = .ok (.iload_n 1, 1) := by decide +kernel
theorem d_C_passHour_26 : decode b_C_passHour 26 = .ok (.invokevirtual 79, 3) := by decide +kernel
theorem d_C_passHour_29 : decode b_C_passHour 29 = .ok (.ifCond .ne 13, 3) := by decide +kernel
theorem d_C_passHour_32 : decode b_C_passHour 32 = .ok (.aload_n 0, 1) := by decide +kernel
theorem d_C_passHour_33 : decode b_C_passHour 33 = .ok (.iload_n 1, 1) := by decide +kernel
theorem d_C_passHour_34 : decode b_C_passHour 34 = .ok (.invokevirtual 82, 3) := by decide +kernel
theorem d_C_passHour_37 : decode b_C_passHour 37 = .ok (.aload_n 0, 1) := by decide +kernel
theorem d_C_passHour_38 : decode b_C_passHour 38 = .ok (.iload_n 1, 1) := by decide +kernel
theorem d_C_passHour_39 : decode b_C_passHour 39 = .ok (.invokevirtual 86, 3) := by decide +kernel
theorem d_C_passHour_42 : decode b_C_passHour 42 = .ok (.iinc 1 1, 3) := by decide +kernel
theorem d_C_passHour_45 : decode b_C_passHour 45 = .ok (.goto (-43), 3) := by decide +kernel
theorem d_C_passHour_48 : decode b_C_passHour 48 = .ok (.aload_n 0, 1) := by decide +kernel
theorem d_C_passHour_49 : decode b_C_passHour 49 = .ok (.dup, 1) := by decide +kernel
theorem d_C_passHour_50 : decode b_C_passHour 50 = .ok (.getfield 40, 3) := by decide +kernel
theorem d_C_passHour_53 : decode b_C_passHour 53 = .ok (.iconst 1, 1) := by decide +kernel
theorem d_C_passHour_54 : decode b_C_passHour 54 = .ok (.iadd, 1) := by decide +kernel
theorem d_C_passHour_55 : decode b_C_passHour 55 = .ok (.putfield 40, 3) := by decide +kernel
theorem d_C_passHour_58 : decode b_C_passHour 58 = .ok (.return_, 1) := by decide +kernel
theorem d_C_passHours_0 : decode b_C_passHours 0 = .ok (.iconst 0, 1) := by decide +kernel
theorem d_C_passHours_1 : decode b_C_passHours 1 = .ok (.istore_n 2, 1) := by decide +kernel
theorem d_C_passHours_2 : decode b_C_passHours 2 = .ok (.iload_n 2, 1) := by decide +kernel
theorem d_C_passHours_3 : decode b_C_passHours 3 = .ok (.iload_n 1, 1) := by decide +kernel
theorem d_C_passHours_4 : decode b_C_passHours 4 = .ok (.if_icmp .ge 33, 3) := by decide +kernel
theorem d_C_passHours_7 : decode b_C_passHours 7 = .ok (.aload_n 0, 1) := by decide +kernel
theorem d_C_passHours_8 : decode b_C_passHours 8 = .ok (.invokevirtual 72, 3) := by decide +kernel
theorem d_C_passHours_11 : decode b_C_passHours 11 = .ok (.ifCond .eq 16, 3) := by decide +kernel
theorem d_C_passHours_14 : decode b_C_passHours 14 = .ok (.aload_n 0, 1) := by decide +kernel
theorem d_C_passHours_15 : decode b_C_passHours 15 = .ok (.dup, 1) := by decide +kernel
theorem d_C_passHours_16 : decode b_C_passHours 16 = .ok (.getfield 40, 3) := by decide +kernel
theorem d_C_passHours_19 : decode b_C_passHours 19 = .ok (.iload_n 1, 1) := by decide +kernel
theorem d_C_passHours_20 : decode b_C_passHours 20 = .ok (.iload_n 2, 1) := by decide +kernel
theorem d_C_passHours_21 : decode b_C_passHours 21 = .ok (.isub, 1) := by decide +kernel
theorem d_C_passHours_22 : decode b_C_passHours 22 = .ok (.iadd, 1) := by decide +kernel
theorem d_C_passHours_23 : decode b_C_passHours 23 = .ok (.putfield 40, 3) := by decide +kernel
theorem d_C_passHours_26 : decode b_C_passHours 26 = .ok (.return_, 1) := by decide +kernel
theorem d_C_passHours_27 : decode b_C_passHours 27 = .ok (.aload_n 0, 1) := by decide +kernel
theorem d_C_passHours_28 : decode b_C_passHours 28 = .ok (.invokevirtual 76, 3) := by decide +kernel
theorem d_C_passHours_31 : decode b_C_passHours 31 = .ok (.iinc 2 1, 3) := by decide +kernel
theorem d_C_passHours_34 : decode b_C_passHours 34 = .ok (.goto (-32), 3) := by decide +kernel
theorem d_C_passHours_37 : decode b_C_passHours 37 = .ok (.return_, 1) := by decide +kernel
theorem d_C_draw_0 : decode b_C_draw 0 = .ok (.aload_n 0, 1) := by decide +kernel
theorem d_C_draw_1 : decode b_C_draw 1 = .ok (.aload_n 0, 1) := by decide +kernel
theorem d_C_draw_2 : decode b_C_draw 2 = .ok (.getfield 43, 3) := by decide +kernel
theorem d_C_draw_5 : decode b_C_draw 5 = .ok (.ldc 115, 2) := by decide +kernel
theorem d_C_draw_7 : decode b_C_draw 7 = .ok (.imul, 1) := by decide +kernel
theorem d_C_draw_8 : decode b_C_draw 8 = .ok (.sipush 12345, 3) := by decide +kernel
theorem d_C_draw_11 : decode b_C_draw 11 = .ok (.iadd, 1) := by decide +kernel
theorem d_C_draw_12 : decode b_C_draw 12 = .ok (.putfield 43, 3) := by decide +kernel
theorem d_C_draw_15 : decode b_C_draw 15 = .ok (.aload_n 0, 1) := by decide +kernel
theorem d_C_draw_16 : decode b_C_draw 16 = .ok (.getfield 43, 3) := by decide +kernel
theorem d_C_draw_19 : decode b_C_draw 19 = .ok (.bipush 16, 2) := by decide +kernel
theorem d_C_draw_21 : decode b_C_draw 21 = .ok (.iushr, 1) := by decide +kernel
theorem d_C_draw_22 : decode b_C_draw 22 = .ok (.ireturn, 1) := by decide +kernel
theorem d_C_passHourByDraws_0 : decode b_C_passHourByDraws 0 = .ok (.aload_n 0, 1) := by decide +kernel
theorem d_C_passHourByDraws_1 : decode b_C_passHourByDraws 1 = .ok (.getfield 36, 3) := by decide +kernel
theorem d_C_passHourByDraws_4 : decode b_C_passHourByDraws 4 = .ok (.ifCond .le 59, 3) := by decide +kernel
theorem d_C_passHourByDraws_7 : decode b_C_passHourByDraws 7 = .ok (.aload_n 0, 1) := by decide +kernel
theorem d_C_passHourByDraws_8 : decode b_C_passHourByDraws 8 = .ok (.invokevirtual 112, 3) := by decide +kernel
theorem d_C_passHourByDraws_11 : decode b_C_passHourByDraws 11 = .ok (.aload_n 0, 1) := by decide +kernel
theorem d_C_passHourByDraws_12 : decode b_C_passHourByDraws 12 = .ok (.getfield 36, 3) := by decide +kernel
theorem d_C_passHourByDraws_15 : decode b_C_passHourByDraws 15 = .ok (.irem, 1) := by decide +kernel
theorem d_C_passHourByDraws_16 : decode b_C_passHourByDraws 16 = .ok (.istore_n 1, 1) := by decide +kernel
theorem d_C_passHourByDraws_17 : decode b_C_passHourByDraws 17 = .ok (.aload_n 0, 1) := by decide +kernel
theorem d_C_passHourByDraws_18 : decode b_C_passHourByDraws 18 = .ok (.invokevirtual 112, 3) := by decide +kernel
theorem d_C_passHourByDraws_21 : decode b_C_passHourByDraws 21 = .ok (.bipush 100, 2) := by decide +kernel
theorem d_C_passHourByDraws_23 : decode b_C_passHourByDraws 23 = .ok (.irem, 1) := by decide +kernel
theorem d_C_passHourByDraws_24 : decode b_C_passHourByDraws 24 = .ok (.aload_n 0, 1) := by decide +kernel
theorem d_C_passHourByDraws_25 : decode b_C_passHourByDraws 25 = .ok (.getfield 9, 3) := by decide +kernel
theorem d_C_passHourByDraws_28 : decode b_C_passHourByDraws 28 = .ok (.iconst 3, 1) := by decide +kernel
theorem d_C_passHourByDraws_29 : decode b_C_passHourByDraws 29 = .ok (.iaload, 1) := by decide +kernel
theorem d_C_passHourByDraws_30 : decode b_C_passHourByDraws 30 = .ok (.if_icmp .ge 7, 3) := by decide +kernel
theorem d_C_passHourByDraws_33 : decode b_C_passHourByDraws 33 = .ok (.iconst 1, 1) := by decide +kernel
theorem d_C_passHourByDraws_34 : decode b_C_passHourByDraws 34 = .ok (.goto 4, 3) := by decide +kernel
theorem d_C_passHourByDraws_37 : decode b_C_passHourByDraws 37 = .ok (.iconst 0, 1) := by decide +kernel
theorem d_C_passHourByDraws_38 : decode b_C_passHourByDraws 38 = .ok (.istore_n 2, 1) := by decide +kernel
theorem d_C_passHourByDraws_39 : decode b_C_passHourByDraws 39 = .ok (.iload_n 2, 1) := by decide +kernel
theorem d_C_passHourByDraws_40 : decode b_C_passHourByDraws 40 = .ok (.ifCond .eq 23, 3) := by decide +kernel
theorem d_C_passHourByDraws_43 : decode b_C_passHourByDraws 43 = .ok (.iload_n 1, 1) := by decide +kernel
theorem d_C_passHourByDraws_44 : decode b_C_passHourByDraws 44 = .ok (.ifCond .lt 19, 3) := by decide +kernel
theorem d_C_passHourByDraws_47 : decode b_C_passHourByDraws 47 = .ok (.iload_n 1, 1) := by decide +kernel
theorem d_C_passHourByDraws_48 : decode b_C_passHourByDraws 48 = .ok (.bipush 8, 2) := by decide +kernel
theorem d_C_passHourByDraws_50 : decode b_C_passHourByDraws 50 = .ok (.if_icmp .ge 13, 3) := by decide +kernel
theorem d_C_passHourByDraws_53 : decode b_C_passHourByDraws 53 = .ok (.aload_n 0, 1) := by decide +kernel
theorem d_C_passHourByDraws_54 : decode b_C_passHourByDraws 54 = .ok (.getfield 24, 3) := by decide +kernel
theorem d_C_passHourByDraws_57 : decode b_C_passHourByDraws 57 = .ok (.iload_n 1, 1) := by decide +kernel
theorem d_C_passHourByDraws_58 : decode b_C_passHourByDraws 58 = .ok (.dup2, 1) := by decide +kernel
theorem d_C_passHourByDraws_59 : decode b_C_passHourByDraws 59 = .ok (.iaload, 1) := by decide +kernel
theorem d_C_passHourByDraws_60 : decode b_C_passHourByDraws 60 = .ok (.iconst 2, 1) := by decide +kernel
theorem d_C_passHourByDraws_61 : decode b_C_passHourByDraws 61 = .ok (.idiv, 1) := by decide +kernel
theorem d_C_passHourByDraws_62 : decode b_C_passHourByDraws 62 = .ok (.iastore, 1) := by decide +kernel
theorem d_C_passHourByDraws_63 : decode b_C_passHourByDraws 63 = .ok (.aload_n 0, 1) := by decide +kernel
theorem d_C_passHourByDraws_64 : decode b_C_passHourByDraws 64 = .ok (.invokevirtual 76, 3) := by decide +kernel
theorem d_C_passHourByDraws_67 : decode b_C_passHourByDraws 67 = .ok (.return_, 1) := by decide +kernel
theorem d_C_allLoads_0 : decode b_C_allLoads 0 = .ok (.iconst 0, 1) := by decide +kernel
theorem d_C_allLoads_1 : decode b_C_allLoads 1 = .ok (.istore_n 1, 1) := by decide +kernel
theorem d_C_allLoads_2 : decode b_C_allLoads 2 = .ok (.iconst 0, 1) := by decide +kernel
theorem d_C_allLoads_3 : decode b_C_allLoads 3 = .ok (.istore_n 2, 1) := by decide +kernel
theorem d_C_allLoads_4 : decode b_C_allLoads 4 = .ok (.iload_n 2, 1) := by decide +kernel
theorem d_C_allLoads_5 : decode b_C_allLoads 5 = .ok (.aload_n 0, 1) := by decide +kernel
theorem d_C_allLoads_6 : decode b_C_allLoads 6 = .ok (.getfield 36, 3) := by decide +kernel
theorem d_C_allLoads_9 : decode b_C_allLoads 9 = .ok (.if_icmp .ge 24, 3) := by decide +kernel
theorem d_C_allLoads_12 : decode b_C_allLoads 12 = .ok (.iload_n 2, 1) := by decide +kernel
theorem d_C_allLoads_13 : decode b_C_allLoads 13 = .ok (.bipush 8, 2) := by decide +kernel
theorem d_C_allLoads_15 : decode b_C_allLoads 15 = .ok (.if_icmp .ge 18, 3) := by decide +kernel
theorem d_C_allLoads_18 : decode b_C_allLoads 18 = .ok (.iload_n 1, 1) := by decide +kernel
theorem d_C_allLoads_19 : decode b_C_allLoads 19 = .ok (.aload_n 0, 1) := by decide +kernel
theorem d_C_allLoads_20 : decode b_C_allLoads 20 = .ok (.getfield 24, 3) := by decide +kernel
theorem d_C_allLoads_23 : decode b_C_allLoads 23 = .ok (.iload_n 2, 1) := by decide +kernel
theorem d_C_allLoads_24 : decode b_C_allLoads 24 = .ok (.iaload, 1) := by decide +kernel
theorem d_C_allLoads_25 : decode b_C_allLoads 25 = .ok (.iadd, 1) := by decide +kernel
theorem d_C_allLoads_26 : decode b_C_allLoads 26 = .ok (.istore_n 1, 1) := by decide +kernel
theorem d_C_allLoads_27 : decode b_C_allLoads 27 = .ok (.iinc 2 1, 3) := by decide +kernel
theorem d_C_allLoads_30 : decode b_C_allLoads 30 = .ok (.goto (-26), 3) := by decide +kernel
theorem d_C_allLoads_33 : decode b_C_allLoads 33 = .ok (.iload_n 1, 1) := by decide +kernel
theorem d_C_allLoads_34 : decode b_C_allLoads 34 = .ok (.ireturn, 1) := by decide +kernel
theorem d_C_allLost_0 : decode b_C_allLost 0 = .ok (.iconst 0, 1) := by decide +kernel
theorem d_C_allLost_1 : decode b_C_allLost 1 = .ok (.istore_n 1, 1) := by decide +kernel
theorem d_C_allLost_2 : decode b_C_allLost 2 = .ok (.iconst 0, 1) := by decide +kernel
theorem d_C_allLost_3 : decode b_C_allLost 3 = .ok (.istore_n 2, 1) := by decide +kernel
theorem d_C_allLost_4 : decode b_C_allLost 4 = .ok (.iload_n 2, 1) := by decide +kernel
theorem d_C_allLost_5 : decode b_C_allLost 5 = .ok (.bipush 10, 2) := by decide +kernel
theorem d_C_allLost_7 : decode b_C_allLost 7 = .ok (.if_icmp .ge 18, 3) := by decide +kernel
theorem d_C_allLost_10 : decode b_C_allLost 10 = .ok (.iload_n 1, 1) := by decide +kernel
theorem d_C_allLost_11 : decode b_C_allLost 11 = .ok (.aload_n 0, 1) := by decide +kernel
theorem d_C_allLost_12 : decode b_C_allLost 12 = .ok (.getfield 18, 3) := by decide +kernel
theorem d_C_allLost_15 : decode b_C_allLost 15 = .ok (.iload_n 2, 1) := by decide +kernel
theorem d_C_allLost_16 : decode b_C_allLost 16 = .ok (.iaload, 1) := by decide +kernel
theorem d_C_allLost_17 : decode b_C_allLost 17 = .ok (.iadd, 1) := by decide +kernel
theorem d_C_allLost_18 : decode b_C_allLost 18 = .ok (.istore_n 1, 1) := by decide +kernel
theorem d_C_allLost_19 : decode b_C_allLost 19 = .ok (.iinc 2 1, 3) := by decide +kernel
theorem d_C_allLost_22 : decode b_C_allLost 22 = .ok (.goto (-18), 3) := by decide +kernel
theorem d_C_allLost_25 : decode b_C_allLost 25 = .ok (.iload_n 1, 1) := by decide +kernel
theorem d_C_allLost_26 : decode b_C_allLost 26 = .ok (.ireturn, 1) := by decide +kernel
theorem d_C_usedLocks_0 : decode b_C_usedLocks 0 = .ok (.iconst 0, 1) := by decide +kernel
theorem d_C_usedLocks_1 : decode b_C_usedLocks 1 = .ok (.istore_n 1, 1) := by decide +kernel
theorem d_C_usedLocks_2 : decode b_C_usedLocks 2 = .ok (.iconst 0, 1) := by decide +kernel
theorem d_C_usedLocks_3 : decode b_C_usedLocks 3 = .ok (.istore_n 2, 1) := by decide +kernel
theorem d_C_usedLocks_4 : decode b_C_usedLocks 4 = .ok (.iload_n 2, 1) := by decide +kernel
theorem d_C_usedLocks_5 : decode b_C_usedLocks 5 = .ok (.aload_n 0, 1) := by decide +kernel
theorem d_C_usedLocks_6 : decode b_C_usedLocks 6 = .ok (.getfield 36, 3) := by decide +kernel
theorem d_C_usedLocks_9 : decode b_C_usedLocks 9 = .ok (.if_icmp .ge 26, 3) := by decide +kernel
theorem d_C_usedLocks_12 : decode b_C_usedLocks 12 = .ok (.iload_n 2, 1) := by decide +kernel
theorem d_C_usedLocks_13 : decode b_C_usedLocks 13 = .ok (.bipush 8, 2) := by decide +kernel
theorem d_C_usedLocks_15 : decode b_C_usedLocks 15 = .ok (.if_icmp .ge 20, 3) := by decide +kernel
theorem d_C_usedLocks_18 : decode b_C_usedLocks 18 = .ok (.iload_n 1, 1) := by decide +kernel
theorem d_C_usedLocks_19 : decode b_C_usedLocks 19 = .ok (.iconst 1, 1) := by decide +kernel
theorem d_C_usedLocks_20 : decode b_C_usedLocks 20 = .ok (.aload_n 0, 1) := by decide +kernel
theorem d_C_usedLocks_21 : decode b_C_usedLocks 21 = .ok (.getfield 30, 3) := by decide +kernel
theorem d_C_usedLocks_24 : decode b_C_usedLocks 24 = .ok (.iload_n 2, 1) := by decide +kernel
theorem d_C_usedLocks_25 : decode b_C_usedLocks 25 = .ok (.iaload, 1) := by decide +kernel
theorem d_C_usedLocks_26 : decode b_C_usedLocks 26 = .ok (.ishl, 1) := by decide +kernel
theorem d_C_usedLocks_27 : decode b_C_usedLocks 27 = .ok (.ior, 1) := by decide +kernel
theorem d_C_usedLocks_28 : decode b_C_usedLocks 28 = .ok (.istore_n 1, 1) := by decide +kernel
theorem d_C_usedLocks_29 : decode b_C_usedLocks 29 = .ok (.iinc 2 1, 3) := by decide +kernel
theorem d_C_usedLocks_32 : decode b_C_usedLocks 32 = .ok (.goto (-28), 3) := by decide +kernel
theorem d_C_usedLocks_35 : decode b_C_usedLocks 35 = .ok (.iload_n 1, 1) := by decide +kernel
theorem d_C_usedLocks_36 : decode b_C_usedLocks 36 = .ok (.ireturn, 1) := by decide +kernel
theorem d_C_bargesAt_0 : decode b_C_bargesAt 0 = .ok (.iconst 0, 1) := by decide +kernel
theorem d_C_bargesAt_1 : decode b_C_bargesAt 1 = .ok (.istore_n 2, 1) := by decide +kernel
theorem d_C_bargesAt_2 : decode b_C_bargesAt 2 = .ok (.iconst 0, 1) := by decide +kernel
theorem d_C_bargesAt_3 : decode b_C_bargesAt 3 = .ok (.istore_n 3, 1) := by decide +kernel
theorem d_C_bargesAt_4 : decode b_C_bargesAt 4 = .ok (.iload_n 3, 1) := by decide +kernel
theorem d_C_bargesAt_5 : decode b_C_bargesAt 5 = .ok (.aload_n 0, 1) := by decide +kernel
theorem d_C_bargesAt_6 : decode b_C_bargesAt 6 = .ok (.getfield 36, 3) := by decide +kernel
theorem d_C_bargesAt_9 : decode b_C_bargesAt 9 = .ok (.if_icmp .ge 31, 3) := by decide +kernel
theorem d_C_bargesAt_12 : decode b_C_bargesAt 12 = .ok (.iload_n 3, 1) := by decide +kernel
theorem d_C_bargesAt_13 : decode b_C_bargesAt 13 = .ok (.bipush 8, 2) := by decide +kernel
theorem d_C_bargesAt_15 : decode b_C_bargesAt 15 = .ok (.if_icmp .ge 25, 3) := by decide +kernel
theorem d_C_bargesAt_18 : decode b_C_bargesAt 18 = .ok (.aload_n 0, 1) := by decide +kernel
theorem d_C_bargesAt_19 : decode b_C_bargesAt 19 = .ok (.getfield 30, 3) := by decide +kernel
theorem d_C_bargesAt_22 : decode b_C_bargesAt 22 = .ok (.iload_n 3, 1) := by decide +kernel
theorem d_C_bargesAt_23 : decode b_C_bargesAt 23 = .ok (.iaload, 1) := by decide +kernel
theorem d_C_bargesAt_24 : decode b_C_bargesAt 24 = .ok (.iload_n 1, 1) := by decide +kernel
theorem d_C_bargesAt_25 : decode b_C_bargesAt 25 = .ok (.if_icmp .ne 9, 3) := by decide +kernel
theorem d_C_bargesAt_28 : decode b_C_bargesAt 28 = .ok (.iload_n 2, 1) := by decide +kernel
theorem d_C_bargesAt_29 : decode b_C_bargesAt 29 = .ok (.iconst 1, 1) := by decide +kernel
theorem d_C_bargesAt_30 : decode b_C_bargesAt 30 = .ok (.iload_n 3, 1) := by decide +kernel
theorem d_C_bargesAt_31 : decode b_C_bargesAt 31 = .ok (.ishl, 1) := by decide +kernel
theorem d_C_bargesAt_32 : decode b_C_bargesAt 32 = .ok (.ior, 1) := by decide +kernel
theorem d_C_bargesAt_33 : decode b_C_bargesAt 33 = .ok (.istore_n 2, 1) := by decide +kernel
theorem d_C_bargesAt_34 : decode b_C_bargesAt 34 = .ok (.iinc 3 1, 3) := by decide +kernel
theorem d_C_bargesAt_37 : decode b_C_bargesAt 37 = .ok (.goto (-33), 3) := by decide +kernel
theorem d_C_bargesAt_40 : decode b_C_bargesAt 40 = .ok (.iload_n 2, 1) := by decide +kernel
theorem d_C_bargesAt_41 : decode b_C_bargesAt 41 = .ok (.ireturn, 1) := by decide +kernel
theorem d_C_loudest_0 : decode b_C_loudest 0 = .ok (.bipush 10, 2) := by decide +kernel
theorem d_C_loudest_2 : decode b_C_loudest 2 = .ok (.istore_n 1, 1) := by decide +kernel
theorem d_C_loudest_3 : decode b_C_loudest 3 = .ok (.iconst 0, 1) := by decide +kernel
theorem d_C_loudest_4 : decode b_C_loudest 4 = .ok (.istore_n 2, 1) := by decide +kernel
theorem d_C_loudest_5 : decode b_C_loudest 5 = .ok (.iconst 0, 1) := by decide +kernel
theorem d_C_loudest_6 : decode b_C_loudest 6 = .ok (.istore_n 3, 1) := by decide +kernel
theorem d_C_loudest_7 : decode b_C_loudest 7 = .ok (.iload_n 3, 1) := by decide +kernel
theorem d_C_loudest_8 : decode b_C_loudest 8 = .ok (.bipush 10, 2) := by decide +kernel
theorem d_C_loudest_10 : decode b_C_loudest 10 = .ok (.if_icmp .ge 28, 3) := by decide +kernel
theorem d_C_loudest_13 : decode b_C_loudest 13 = .ok (.aload_n 0, 1) := by decide +kernel
theorem d_C_loudest_14 : decode b_C_loudest 14 = .ok (.getfield 18, 3) := by decide +kernel
theorem d_C_loudest_17 : decode b_C_loudest 17 = .ok (.iload_n 3, 1) := by decide +kernel
theorem d_C_loudest_18 : decode b_C_loudest 18 = .ok (.iaload, 1) := by decide +kernel
theorem d_C_loudest_19 : decode b_C_loudest 19 = .ok (.iload_n 2, 1) := by decide +kernel
theorem d_C_loudest_20 : decode b_C_loudest 20 = .ok (.if_icmp .le 12, 3) := by decide +kernel
theorem d_C_loudest_23 : decode b_C_loudest 23 = .ok (.aload_n 0, 1) := by decide +kernel
theorem d_C_loudest_24 : decode b_C_loudest 24 = .ok (.getfield 18, 3) := by decide +kernel
theorem d_C_loudest_27 : decode b_C_loudest 27 = .ok (.iload_n 3, 1) := by decide +kernel
theorem d_C_loudest_28 : decode b_C_loudest 28 = .ok (.iaload, 1) := by decide +kernel
theorem d_C_loudest_29 : decode b_C_loudest 29 = .ok (.istore_n 2, 1) := by decide +kernel
theorem d_C_loudest_30 : decode b_C_loudest 30 = .ok (.iload_n 3, 1) := by decide +kernel
theorem d_C_loudest_31 : decode b_C_loudest 31 = .ok (.istore_n 1, 1) := by decide +kernel
theorem d_C_loudest_32 : decode b_C_loudest 32 = .ok (.iinc 3 1, 3) := by decide +kernel
theorem d_C_loudest_35 : decode b_C_loudest 35 = .ok (.goto (-28), 3) := by decide +kernel
theorem d_C_loudest_38 : decode b_C_loudest 38 = .ok (.iload_n 1, 1) := by decide +kernel
theorem d_C_loudest_39 : decode b_C_loudest 39 = .ok (.ireturn, 1) := by decide +kernel
theorem d_C_locksWithLoss_0 : decode b_C_locksWithLoss 0 = .ok (.iconst 0, 1) := by decide +kernel
theorem d_C_locksWithLoss_1 : decode b_C_locksWithLoss 1 = .ok (.istore_n 1, 1) := by decide +kernel
theorem d_C_locksWithLoss_2 : decode b_C_locksWithLoss 2 = .ok (.iconst 0, 1) := by decide +kernel
theorem d_C_locksWithLoss_3 : decode b_C_locksWithLoss 3 = .ok (.istore_n 2, 1) := by decide +kernel
theorem d_C_locksWithLoss_4 : decode b_C_locksWithLoss 4 = .ok (.iload_n 2, 1) := by decide +kernel
theorem d_C_locksWithLoss_5 : decode b_C_locksWithLoss 5 = .ok (.bipush 10, 2) := by decide +kernel
theorem d_C_locksWithLoss_7 : decode b_C_locksWithLoss 7 = .ok (.if_icmp .ge 21, 3) := by decide +kernel
theorem d_C_locksWithLoss_10 : decode b_C_locksWithLoss 10 = .ok (.aload_n 0, 1) := by decide +kernel
theorem d_C_locksWithLoss_11 : decode b_C_locksWithLoss 11 = .ok (.getfield 18, 3) := by decide +kernel
theorem d_C_locksWithLoss_14 : decode b_C_locksWithLoss 14 = .ok (.iload_n 2, 1) := by decide +kernel
theorem d_C_locksWithLoss_15 : decode b_C_locksWithLoss 15 = .ok (.iaload, 1) := by decide +kernel
theorem d_C_locksWithLoss_16 : decode b_C_locksWithLoss 16 = .ok (.ifCond .le 6, 3) := by decide +kernel
theorem d_C_locksWithLoss_19 : decode b_C_locksWithLoss 19 = .ok (.iinc 1 1, 3) := by decide +kernel
theorem d_C_locksWithLoss_22 : decode b_C_locksWithLoss 22 = .ok (.iinc 2 1, 3) := by decide +kernel
theorem d_C_locksWithLoss_25 : decode b_C_locksWithLoss 25 = .ok (.goto (-21), 3) := by decide +kernel
theorem d_C_locksWithLoss_28 : decode b_C_locksWithLoss 28 = .ok (.iload_n 1, 1) := by decide +kernel
theorem d_C_locksWithLoss_29 : decode b_C_locksWithLoss 29 = .ok (.ireturn, 1) := by decide +kernel
theorem d_C_loudOnTheWay_0 : decode b_C_loudOnTheWay 0 = .ok (.iconst 0, 1) := by decide +kernel
theorem d_C_loudOnTheWay_1 : decode b_C_loudOnTheWay 1 = .ok (.istore_n 1, 1) := by decide +kernel
theorem d_C_loudOnTheWay_2 : decode b_C_loudOnTheWay 2 = .ok (.iconst 0, 1) := by decide +kernel
theorem d_C_loudOnTheWay_3 : decode b_C_loudOnTheWay 3 = .ok (.istore_n 2, 1) := by decide +kernel
theorem d_C_loudOnTheWay_4 : decode b_C_loudOnTheWay 4 = .ok (.iload_n 2, 1) := by decide +kernel
theorem d_C_loudOnTheWay_5 : decode b_C_loudOnTheWay 5 = .ok (.aload_n 0, 1) := by decide +kernel
theorem d_C_loudOnTheWay_6 : decode b_C_loudOnTheWay 6 = .ok (.getfield 36, 3) := by decide +kernel
theorem d_C_loudOnTheWay_9 : decode b_C_loudOnTheWay 9 = .ok (.if_icmp .ge 91, 3) := by decide +kernel
theorem d_C_loudOnTheWay_12 : decode b_C_loudOnTheWay 12 = .ok (.iload_n 2, 1) := by decide +kernel
theorem d_C_loudOnTheWay_13 : decode b_C_loudOnTheWay 13 = .ok (.bipush 8, 2) := by decide +kernel
theorem d_C_loudOnTheWay_15 : decode b_C_loudOnTheWay 15 = .ok (.if_icmp .ge 85, 3) := by decide +kernel
theorem d_C_loudOnTheWay_18 : decode b_C_loudOnTheWay 18 = .ok (.aload_n 0, 1) := by decide +kernel
theorem d_C_loudOnTheWay_19 : decode b_C_loudOnTheWay 19 = .ok (.getfield 30, 3) := by decide +kernel
theorem d_C_loudOnTheWay_22 : decode b_C_loudOnTheWay 22 = .ok (.iload_n 2, 1) := by decide +kernel
theorem d_C_loudOnTheWay_23 : decode b_C_loudOnTheWay 23 = .ok (.iaload, 1) := by decide +kernel
theorem d_C_loudOnTheWay_24 : decode b_C_loudOnTheWay 24 = .ok (.aload_n 0, 1) := by decide +kernel
theorem d_C_loudOnTheWay_25 : decode b_C_loudOnTheWay 25 = .ok (.getfield 33, 3) := by decide +kernel
theorem d_C_loudOnTheWay_28 : decode b_C_loudOnTheWay 28 = .ok (.iload_n 2, 1) := by decide +kernel
theorem d_C_loudOnTheWay_29 : decode b_C_loudOnTheWay 29 = .ok (.iaload, 1) := by decide +kernel
theorem d_C_loudOnTheWay_30 : decode b_C_loudOnTheWay 30 = .ok (.invokestatic 107, 3) := by decide +kernel
theorem d_C_loudOnTheWay_33 : decode b_C_loudOnTheWay 33 = .ok (.istore_n 3, 1) := by decide +kernel
theorem d_C_loudOnTheWay_34 : decode b_C_loudOnTheWay 34 = .ok (.aload_n 0, 1) := by decide +kernel
theorem d_C_loudOnTheWay_35 : decode b_C_loudOnTheWay 35 = .ok (.getfield 30, 3) := by decide +kernel
theorem d_C_loudOnTheWay_38 : decode b_C_loudOnTheWay 38 = .ok (.iload_n 2, 1) := by decide +kernel
theorem d_C_loudOnTheWay_39 : decode b_C_loudOnTheWay 39 = .ok (.iaload, 1) := by decide +kernel
theorem d_C_loudOnTheWay_40 : decode b_C_loudOnTheWay 40 = .ok (.aload_n 0, 1) := by decide +kernel
theorem d_C_loudOnTheWay_41 : decode b_C_loudOnTheWay 41 = .ok (.getfield 33, 3) := by decide +kernel
theorem d_C_loudOnTheWay_44 : decode b_C_loudOnTheWay 44 = .ok (.iload_n 2, 1) := by decide +kernel
theorem d_C_loudOnTheWay_45 : decode b_C_loudOnTheWay 45 = .ok (.iaload, 1) := by decide +kernel
theorem d_C_loudOnTheWay_46 : decode b_C_loudOnTheWay 46 = .ok (.invokestatic 116, 3) := by decide +kernel
theorem d_C_loudOnTheWay_49 : decode b_C_loudOnTheWay 49 = .ok (.istore 4, 2) := by decide +kernel
theorem d_C_loudOnTheWay_51 : decode b_C_loudOnTheWay 51 = .ok (.iload_n 3, 1) := by decide +kernel
theorem d_C_loudOnTheWay_52 : decode b_C_loudOnTheWay 52 = .ok (.istore 5, 2) := by decide +kernel
theorem d_C_loudOnTheWay_54 : decode b_C_loudOnTheWay 54 = .ok (.iload 5, 2) := by decide +kernel
theorem d_C_loudOnTheWay_56 : decode b_C_loudOnTheWay 56 = .ok (.iload 4, 2) := by decide +kernel
theorem d_C_loudOnTheWay_58 : decode b_C_loudOnTheWay 58 = .ok (.if_icmp .gt 36, 3) := by decide +kernel
theorem d_C_loudOnTheWay_61 : decode b_C_loudOnTheWay 61 = .ok (.iload 5, 2) := by decide +kernel
theorem d_C_loudOnTheWay_63 : decode b_C_loudOnTheWay 63 = .ok (.aload_n 0, 1) := by decide +kernel
theorem d_C_loudOnTheWay_64 : decode b_C_loudOnTheWay 64 = .ok (.getfield 30, 3) := by decide +kernel
theorem d_C_loudOnTheWay_67 : decode b_C_loudOnTheWay 67 = .ok (.iload_n 2, 1) := by decide +kernel
theorem d_C_loudOnTheWay_68 : decode b_C_loudOnTheWay 68 = .ok (.iaload, 1) := by decide +kernel
theorem d_C_loudOnTheWay_69 : decode b_C_loudOnTheWay 69 = .ok (.if_icmp .eq 19, 3) := by decide +kernel
theorem d_C_loudOnTheWay_72 : decode b_C_loudOnTheWay 72 = .ok (.aload_n 0, 1) := by decide +kernel
theorem d_C_loudOnTheWay_73 : decode b_C_loudOnTheWay 73 = .ok (.iload 5, 2) := by decide +kernel
theorem d_C_loudOnTheWay_75 : decode b_C_loudOnTheWay 75 = .ok (.invokevirtual 93, 3) := by decide +kernel
theorem d_C_loudOnTheWay_78 : decode b_C_loudOnTheWay 78 = .ok (.ifCond .le 10, 3) := by decide +kernel
theorem d_C_loudOnTheWay_81 : decode b_C_loudOnTheWay 81 = .ok (.iload_n 1, 1) := by decide +kernel
theorem d_C_loudOnTheWay_82 : decode b_C_loudOnTheWay 82 = .ok (.iconst 1, 1) := by decide +kernel
theorem d_C_loudOnTheWay_83 : decode b_C_loudOnTheWay 83 = .ok (.iload 5, 2) := by decide +kernel
theorem d_C_loudOnTheWay_85 : decode b_C_loudOnTheWay 85 = .ok (.ishl, 1) := by decide +kernel
theorem d_C_loudOnTheWay_86 : decode b_C_loudOnTheWay 86 = .ok (.ior, 1) := by decide +kernel
theorem d_C_loudOnTheWay_87 : decode b_C_loudOnTheWay 87 = .ok (.istore_n 1, 1) := by decide +kernel
theorem d_C_loudOnTheWay_88 : decode b_C_loudOnTheWay 88 = .ok (.iinc 5 1, 3) := by decide +kernel
theorem d_C_loudOnTheWay_91 : decode b_C_loudOnTheWay 91 = .ok (.goto (-37), 3) := by decide +kernel
theorem d_C_loudOnTheWay_94 : decode b_C_loudOnTheWay 94 = .ok (.iinc 2 1, 3) := by decide +kernel
theorem d_C_loudOnTheWay_97 : decode b_C_loudOnTheWay 97 = .ok (.goto (-93), 3) := by decide +kernel
theorem d_C_loudOnTheWay_100 : decode b_C_loudOnTheWay 100 = .ok (.iload_n 1, 1) := by decide +kernel
theorem d_C_loudOnTheWay_101 : decode b_C_loudOnTheWay 101 = .ok (.ireturn, 1) := by decide +kernel
