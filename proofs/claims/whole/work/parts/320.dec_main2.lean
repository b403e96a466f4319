theorem d_X_loadFits_0 : decode b_X_loadFits 0 = .ok (.aload_n 0, 1) := by decide +kernel
theorem d_X_loadFits_1 : decode b_X_loadFits 1 = .ok (.iload_n 2, 1) := by decide +kernel
theorem d_X_loadFits_2 : decode b_X_loadFits 2 = .ok (.invokevirtual 106, 3) := by decide +kernel
theorem d_X_loadFits_5 : decode b_X_loadFits 5 = .ok (.ifCond .ne 5, 3) := by decide +kernel
theorem d_X_loadFits_8 : decode b_X_loadFits 8 = .ok (.iconst 0, 1) := by decide +kernel
theorem d_X_loadFits_9 : decode b_X_loadFits 9 = .ok (.ireturn, 1) := by decide +kernel
theorem d_X_loadFits_10 : decode b_X_loadFits 10 = .ok (.aload_n 0, 1) := by decide +kernel
theorem d_X_loadFits_11 : decode b_X_loadFits 11 = .ok (.getfield 16, 3) := by decide +kernel
theorem d_X_loadFits_14 : decode b_X_loadFits 14 = .ok (.aload_n 0, 1) := by decide +kernel
theorem d_X_loadFits_15 : decode b_X_loadFits 15 = .ok (.getfield 10, 3) := by decide +kernel
theorem d_X_loadFits_18 : decode b_X_loadFits 18 = .ok (.invokevirtual 69, 3) := by decide +kernel
theorem d_X_loadFits_21 : decode b_X_loadFits 21 = .ok (.aload_n 0, 1) := by decide +kernel
theorem d_X_loadFits_22 : decode b_X_loadFits 22 = .ok (.getfield 16, 3) := by decide +kernel
theorem d_X_loadFits_25 : decode b_X_loadFits 25 = .ok (.getfield 112, 3) := by decide +kernel
theorem d_X_loadFits_28 : decode b_X_loadFits 28 = .ok (.iload_n 2, 1) := by decide +kernel
theorem d_X_loadFits_29 : decode b_X_loadFits 29 = .ok (.iload_n 3, 1) := by decide +kernel
theorem d_X_loadFits_30 : decode b_X_loadFits 30 = .ok (.iastore, 1) := by decide +kernel
theorem d_X_loadFits_31 : decode b_X_loadFits 31 = .ok (.iconst 0, 1) := by decide +kernel
theorem d_X_loadFits_32 : decode b_X_loadFits 32 = .ok (.istore 4, 2) := by decide +kernel
theorem d_X_loadFits_34 : decode b_X_loadFits 34 = .ok (.iload 4, 2) := by decide +kernel
theorem d_X_loadFits_36 : decode b_X_loadFits 36 = .ok (.aload_n 1, 1) := by decide +kernel
theorem d_X_loadFits_37 : decode b_X_loadFits 37 = .ok (.getfield 227, 3) := by decide +kernel
theorem d_X_loadFits_40 : decode b_X_loadFits 40 = .ok (.if_icmp .ge 55, 3) := by decide +kernel
theorem d_X_loadFits_43 : decode b_X_loadFits 43 = .ok (.iload 4, 2) := by decide +kernel
theorem d_X_loadFits_45 : decode b_X_loadFits 45 = .ok (.bipush 40, 2) := by decide +kernel
theorem d_X_loadFits_47 : decode b_X_loadFits 47 = .ok (.if_icmp .ge 48, 3) := by decide +kernel
theorem d_X_loadFits_50 : decode b_X_loadFits 50 = .ok (.aload_n 0, 1) := by decide +kernel
theorem d_X_loadFits_51 : decode b_X_loadFits 51 = .ok (.getfield 16, 3) := by decide +kernel
theorem d_X_loadFits_54 : decode b_X_loadFits 54 = .ok (.invokevirtual 183, 3) := by decide +kernel
theorem d_X_loadFits_57 : decode b_X_loadFits 57 = .ok (.aload_n 1, 1) := by decide +kernel
theorem d_X_loadFits_58 : decode b_X_loadFits 58 = .ok (.getfield 228, 3) := by decide +kernel
theorem d_X_loadFits_61 : decode b_X_loadFits 61 = .ok (.iload 4, 2) := by decide +kernel
theorem d_X_loadFits_63 : decode b_X_loadFits 63 = .ok (.iaload, 1) := by decide +kernel
theorem d_X_loadFits_64 : decode b_X_loadFits 64 = .ok (.iconst (-1), 1) := by decide +kernel
theorem d_X_loadFits_65 : decode b_X_loadFits 65 = .ok (.if_icmp .eq 24, 3) := by decide +kernel
theorem d_X_loadFits_68 : decode b_X_loadFits 68 = .ok (.aload_n 1, 1) := by decide +kernel
theorem d_X_loadFits_69 : decode b_X_loadFits 69 = .ok (.getfield 228, 3) := by decide +kernel
theorem d_X_loadFits_72 : decode b_X_loadFits 72 = .ok (.iload 4, 2) := by decide +kernel
theorem d_X_loadFits_74 : decode b_X_loadFits 74 = .ok (.iaload, 1) := by decide +kernel
theorem d_X_loadFits_75 : decode b_X_loadFits 75 = .ok (.aload_n 0, 1) := by decide +kernel
theorem d_X_loadFits_76 : decode b_X_loadFits 76 = .ok (.getfield 16, 3) := by decide +kernel
theorem d_X_loadFits_79 : decode b_X_loadFits 79 = .ok (.getfield 112, 3) := by decide +kernel
theorem d_X_loadFits_82 : decode b_X_loadFits 82 = .ok (.iload_n 2, 1) := by decide +kernel
theorem d_X_loadFits_83 : decode b_X_loadFits 83 = .ok (.iaload, 1) := by decide +kernel
theorem d_X_loadFits_84 : decode b_X_loadFits 84 = .ok (.if_icmp .eq 5, 3) := by decide +kernel
theorem d_X_loadFits_87 : decode b_X_loadFits 87 = .ok (.iconst 0, 1) := by decide +kernel
theorem d_X_loadFits_88 : decode b_X_loadFits 88 = .ok (.ireturn, 1) := by decide +kernel
theorem d_X_loadFits_89 : decode b_X_loadFits 89 = .ok (.iinc 4 1, 3) := by decide +kernel
theorem d_X_loadFits_92 : decode b_X_loadFits 92 = .ok (.goto (-58), 3) := by decide +kernel
theorem d_X_loadFits_95 : decode b_X_loadFits 95 = .ok (.iconst 1, 1) := by decide +kernel
theorem d_X_loadFits_96 : decode b_X_loadFits 96 = .ok (.ireturn, 1) := by decide +kernel
theorem d_X_sheetAt_0 : decode b_X_sheetAt 0 = .ok (.iload_n 1, 1) := by decide +kernel
theorem d_X_sheetAt_1 : decode b_X_sheetAt 1 = .ok (.ifCond .lt 17, 3) := by decide +kernel
theorem d_X_sheetAt_4 : decode b_X_sheetAt 4 = .ok (.iload_n 1, 1) := by decide +kernel
theorem d_X_sheetAt_5 : decode b_X_sheetAt 5 = .ok (.iconst 4, 1) := by decide +kernel
theorem d_X_sheetAt_6 : decode b_X_sheetAt 6 = .ok (.if_icmp .ge 12, 3) := by decide +kernel
theorem d_X_sheetAt_9 : decode b_X_sheetAt 9 = .ok (.aload_n 0, 1) := by decide +kernel
theorem d_X_sheetAt_10 : decode b_X_sheetAt 10 = .ok (.getfield 43, 3) := by decide +kernel
theorem d_X_sheetAt_13 : decode b_X_sheetAt 13 = .ok (.iload_n 1, 1) := by decide +kernel
theorem d_X_sheetAt_14 : decode b_X_sheetAt 14 = .ok (.aaload, 1) := by decide +kernel
theorem d_X_sheetAt_15 : decode b_X_sheetAt 15 = .ok (.goto 4, 3) := by decide +kernel
theorem d_X_sheetAt_18 : decode b_X_sheetAt 18 = .ok (.aconst_null, 1) := by decide +kernel
theorem d_X_sheetAt_19 : decode b_X_sheetAt 19 = .ok (.areturn, 1) := by decide +kernel
theorem d_X_fits_0 : decode b_X_fits 0 = .ok (.aload_n 0, 1) := by decide +kernel
theorem d_X_fits_1 : decode b_X_fits 1 = .ok (.iload_n 1, 1) := by decide +kernel
theorem d_X_fits_2 : decode b_X_fits 2 = .ok (.invokevirtual 198, 3) := by decide +kernel
theorem d_X_fits_5 : decode b_X_fits 5 = .ok (.astore 4, 2) := by decide +kernel
theorem d_X_fits_7 : decode b_X_fits 7 = .ok (.aload 4, 2) := by decide +kernel
theorem d_X_fits_9 : decode b_X_fits 9 = .ok (.ifnull 20, 3) := by decide +kernel
theorem d_X_fits_12 : decode b_X_fits 12 = .ok (.aload_n 0, 1) := by decide +kernel
theorem d_X_fits_13 : decode b_X_fits 13 = .ok (.iload_n 2, 1) := by decide +kernel
theorem d_X_fits_14 : decode b_X_fits 14 = .ok (.invokevirtual 106, 3) := by decide +kernel
theorem d_X_fits_17 : decode b_X_fits 17 = .ok (.ifCond .eq 12, 3) := by decide +kernel
theorem d_X_fits_20 : decode b_X_fits 20 = .ok (.iload_n 3, 1) := by decide +kernel
theorem d_X_fits_21 : decode b_X_fits 21 = .ok (.ifCond .lt 8, 3) := by decide +kernel
theorem d_X_fits_24 : decode b_X_fits 24 = .ok (.iload_n 3, 1) := by decide +kernel
theorem d_X_fits_25 : decode b_X_fits 25 = .ok (.iconst 1, 1) := by decide +kernel
theorem d_X_fits_26 : decode b_X_fits 26 = .ok (.if_icmp .le 5, 3) := by decide +kernel
theorem d_X_fits_29 : decode b_X_fits 29 = .ok (.iconst (-1), 1) := by decide +kernel
theorem d_X_fits_30 : decode b_X_fits 30 = .ok (.ireturn, 1) := by decide +kernel
theorem d_X_fits_31 : decode b_X_fits 31 = .ok (.aload 4, 2) := by decide +kernel
theorem d_X_fits_33 : decode b_X_fits 33 = .ok (.getfield 202, 3) := by decide +kernel
theorem d_X_fits_36 : decode b_X_fits 36 = .ok (.iconst (-1), 1) := by decide +kernel
theorem d_X_fits_37 : decode b_X_fits 37 = .ok (.if_icmp .ne 6, 3) := by decide +kernel
theorem d_X_fits_40 : decode b_X_fits 40 = .ok (.bipush (-11), 2) := by decide +kernel
theorem d_X_fits_42 : decode b_X_fits 42 = .ok (.ireturn, 1) := by decide +kernel
theorem d_X_fits_43 : decode b_X_fits 43 = .ok (.iconst 0, 1) := by decide +kernel
theorem d_X_fits_44 : decode b_X_fits 44 = .ok (.istore 5, 2) := by decide +kernel
theorem d_X_fits_46 : decode b_X_fits 46 = .ok (.bipush (-3), 2) := by decide +kernel
theorem d_X_fits_48 : decode b_X_fits 48 = .ok (.istore 6, 2) := by decide +kernel
theorem d_X_fits_50 : decode b_X_fits 50 = .ok (.iconst 0, 1) := by decide +kernel
theorem d_X_fits_51 : decode b_X_fits 51 = .ok (.istore 7, 2) := by decide +kernel
theorem d_X_fits_53 : decode b_X_fits 53 = .ok (.iload 7, 2) := by decide +kernel
theorem d_X_fits_55 : decode b_X_fits 55 = .ok (.bipush 99, 2) := by decide +kernel
theorem d_X_fits_57 : decode b_X_fits 57 = .ok (.if_icmp .gt 40, 3) := by decide +kernel
theorem d_X_fits_60 : decode b_X_fits 60 = .ok (.aload_n 0, 1) := by decide +kernel
theorem d_X_fits_61 : decode b_X_fits 61 = .ok (.aload 4, 2) := by decide +kernel
theorem d_X_fits_63 : decode b_X_fits 63 = .ok (.iload_n 2, 1) := by decide +kernel
theorem d_X_fits_64 : decode b_X_fits 64 = .ok (.iload 7, 2) := by decide +kernel
theorem d_X_fits_66 : decode b_X_fits 66 = .ok (.invokevirtual 204, 3) := by decide +kernel
theorem d_X_fits_69 : decode b_X_fits 69 = .ok (.ifCond .eq 22, 3) := by decide +kernel
theorem d_X_fits_72 : decode b_X_fits 72 = .ok (.iinc 5 1, 3) := by decide +kernel
theorem d_X_fits_75 : decode b_X_fits 75 = .ok (.iload 6, 2) := by decide +kernel
theorem d_X_fits_77 : decode b_X_fits 77 = .ok (.bipush (-3), 2) := by decide +kernel
theorem d_X_fits_79 : decode b_X_fits 79 = .ok (.if_icmp .ne 8, 3) := by decide +kernel
theorem d_X_fits_82 : decode b_X_fits 82 = .ok (.iload 7, 2) := by decide +kernel
theorem d_X_fits_84 : decode b_X_fits 84 = .ok (.goto 5, 3) := by decide +kernel
theorem d_X_fits_87 : decode b_X_fits 87 = .ok (.iload 6, 2) := by decide +kernel
theorem d_X_fits_89 : decode b_X_fits 89 = .ok (.istore 6, 2) := by decide +kernel
theorem d_X_fits_91 : decode b_X_fits 91 = .ok (.iinc 7 1, 3) := by decide +kernel
theorem d_X_fits_94 : decode b_X_fits 94 = .ok (.goto (-41), 3) := by decide +kernel
theorem d_X_fits_97 : decode b_X_fits 97 = .ok (.iload_n 3, 1) := by decide +kernel
theorem d_X_fits_98 : decode b_X_fits 98 = .ok (.ifCond .ne 8, 3) := by decide +kernel
theorem d_X_fits_101 : decode b_X_fits 101 = .ok (.iload 5, 2) := by decide +kernel
theorem d_X_fits_103 : decode b_X_fits 103 = .ok (.goto 5, 3) := by decide +kernel
theorem d_X_fits_106 : decode b_X_fits 106 = .ok (.iload 6, 2) := by decide +kernel
theorem d_X_fits_108 : decode b_X_fits 108 = .ok (.ireturn, 1) := by decide +kernel
theorem d_X_partOf_0 : decode b_X_partOf 0 = .ok (.lload_n 0, 1) := by decide +kernel
theorem d_X_partOf_1 : decode b_X_partOf 1 = .ok (.lstore 5, 2) := by decide +kernel
theorem d_X_partOf_3 : decode b_X_partOf 3 = .ok (.lload_n 2, 1) := by decide +kernel
theorem d_X_partOf_4 : decode b_X_partOf 4 = .ok (.lstore 7, 2) := by decide +kernel
theorem d_X_partOf_6 : decode b_X_partOf 6 = .ok (.iconst 0, 1) := by decide +kernel
theorem d_X_partOf_7 : decode b_X_partOf 7 = .ok (.istore 9, 2) := by decide +kernel
theorem d_X_partOf_9 : decode b_X_partOf 9 = .ok (.iload 9, 2) := by decide +kernel
theorem d_X_partOf_11 : decode b_X_partOf 11 = .ok (.sipush 200, 3) := by decide +kernel
theorem d_X_partOf_14 : decode b_X_partOf 14 = .ok (.if_icmp .ge 31, 3) := by decide +kernel
theorem d_X_partOf_17 : decode b_X_partOf 17 = .ok (.lload 7, 2) := by decide +kernel
theorem d_X_partOf_19 : decode b_X_partOf 19 = .ok (.lconst 0, 1) := by decide +kernel
theorem d_X_partOf_20 : decode b_X_partOf 20 = .ok (.lcmp, 1) := by decide +kernel
theorem d_X_partOf_21 : decode b_X_partOf 21 = .ok (.ifCond .eq 24, 3) := by decide +kernel
theorem d_X_partOf_24 : decode b_X_partOf 24 = .ok (.lload 5, 2) := by decide +kernel
theorem d_X_partOf_26 : decode b_X_partOf 26 = .ok (.lload 7, 2) := by decide +kernel
theorem d_X_partOf_28 : decode b_X_partOf 28 = .ok (.lrem, 1) := by decide +kernel
theorem d_X_partOf_29 : decode b_X_partOf 29 = .ok (.lstore 10, 2) := by decide +kernel
theorem d_X_partOf_31 : decode b_X_partOf 31 = .ok (.lload 7, 2) := by decide +kernel
theorem d_X_partOf_33 : decode b_X_partOf 33 = .ok (.lstore 5, 2) := by decide +kernel
theorem d_X_partOf_35 : decode b_X_partOf 35 = .ok (.lload 10, 2) := by decide +kernel
theorem d_X_partOf_37 : decode b_X_partOf 37 = .ok (.lstore 7, 2) := by decide +kernel
theorem d_X_partOf_39 : decode b_X_partOf 39 = .ok (.iinc 9 1, 3) := by decide +kernel
theorem d_X_partOf_42 : decode b_X_partOf 42 = .ok (.goto (-33), 3) := by decide +kernel
theorem d_X_partOf_45 : decode b_X_partOf 45 = .ok (.lload 5, 2) := by decide +kernel
theorem d_X_partOf_47 : decode b_X_partOf 47 = .ok (.lconst 0, 1) := by decide +kernel
theorem d_X_partOf_48 : decode b_X_partOf 48 = .ok (.lcmp, 1) := by decide +kernel
theorem d_X_partOf_49 : decode b_X_partOf 49 = .ok (.ifCond .ne 5, 3) := by decide +kernel
theorem d_X_partOf_52 : decode b_X_partOf 52 = .ok (.lconst 0, 1) := by decide +kernel
theorem d_X_partOf_53 : decode b_X_partOf 53 = .ok (.lreturn, 1) := by decide +kernel
theorem d_X_partOf_54 : decode b_X_partOf 54 = .ok (.iload 4, 2) := by decide +kernel
theorem d_X_partOf_56 : decode b_X_partOf 56 = .ok (.ifCond .ne 7, 3) := by decide +kernel
theorem d_X_partOf_59 : decode b_X_partOf 59 = .ok (.lload_n 0, 1) := by decide +kernel
theorem d_X_partOf_60 : decode b_X_partOf 60 = .ok (.goto 4, 3) := by decide +kernel
theorem d_X_partOf_63 : decode b_X_partOf 63 = .ok (.lload_n 2, 1) := by decide +kernel
theorem d_X_partOf_64 : decode b_X_partOf 64 = .ok (.lload 5, 2) := by decide +kernel
theorem d_X_partOf_66 : decode b_X_partOf 66 = .ok (.ldiv, 1) := by decide +kernel
theorem d_X_partOf_67 : decode b_X_partOf 67 = .ok (.lreturn, 1) := by decide +kernel
theorem d_X_ways_0 : decode b_X_ways 0 = .ok (.lconst 1, 1) := by decide +kernel
theorem d_X_ways_1 : decode b_X_ways 1 = .ok (.lstore_n 2, 1) := by decide +kernel
theorem d_X_ways_2 : decode b_X_ways 2 = .ok (.iconst 0, 1) := by decide +kernel
theorem d_X_ways_3 : decode b_X_ways 3 = .ok (.istore 4, 2) := by decide +kernel
theorem d_X_ways_5 : decode b_X_ways 5 = .ok (.iload 4, 2) := by decide +kernel
theorem d_X_ways_7 : decode b_X_ways 7 = .ok (.iload_n 1, 1) := by decide +kernel
theorem d_X_ways_8 : decode b_X_ways 8 = .ok (.if_icmp .ge 23, 3) := by decide +kernel
theorem d_X_ways_11 : decode b_X_ways 11 = .ok (.lload_n 2, 1) := by decide +kernel
theorem d_X_ways_12 : decode b_X_ways 12 = .ok (.iload_n 0, 1) := by decide +kernel
theorem d_X_ways_13 : decode b_X_ways 13 = .ok (.iload 4, 2) := by decide +kernel
theorem d_X_ways_15 : decode b_X_ways 15 = .ok (.isub, 1) := by decide +kernel
theorem d_X_ways_16 : decode b_X_ways 16 = .ok (.i2l, 1) := by decide +kernel
theorem d_X_ways_17 : decode b_X_ways 17 = .ok (.lmul, 1) := by decide +kernel
theorem d_X_ways_18 : decode b_X_ways 18 = .ok (.iload 4, 2) := by decide +kernel
theorem d_X_ways_20 : decode b_X_ways 20 = .ok (.iconst 1, 1) := by decide +kernel
theorem d_X_ways_21 : decode b_X_ways 21 = .ok (.iadd, 1) := by decide +kernel
theorem d_X_ways_22 : decode b_X_ways 22 = .ok (.i2l, 1) := by decide +kernel
theorem d_X_ways_23 : decode b_X_ways 23 = .ok (.ldiv, 1) := by decide +kernel
theorem d_X_ways_24 : decode b_X_ways 24 = .ok (.lstore_n 2, 1) := by decide +kernel
theorem d_X_ways_25 : decode b_X_ways 25 = .ok (.iinc 4 1, 3) := by decide +kernel
theorem d_X_ways_28 : decode b_X_ways 28 = .ok (.goto (-23), 3) := by decide +kernel
theorem d_X_ways_31 : decode b_X_ways 31 = .ok (.lload_n 2, 1) := by decide +kernel
theorem d_X_ways_32 : decode b_X_ways 32 = .ok (.lreturn, 1) := by decide +kernel
theorem d_X_odds_0 : decode b_X_odds 0 = .ok (.iload_n 1, 1) := by decide +kernel
theorem d_X_odds_1 : decode b_X_odds 1 = .ok (.ifCond .lt 27, 3) := by decide +kernel
theorem d_X_odds_4 : decode b_X_odds 4 = .ok (.iload_n 1, 1) := by decide +kernel
theorem d_X_odds_5 : decode b_X_odds 5 = .ok (.bipush 8, 2) := by decide +kernel
theorem d_X_odds_7 : decode b_X_odds 7 = .ok (.if_icmp .gt 21, 3) := by decide +kernel
theorem d_X_odds_10 : decode b_X_odds 10 = .ok (.iload_n 2, 1) := by decide +kernel
theorem d_X_odds_11 : decode b_X_odds 11 = .ok (.ifCond .lt 17, 3) := by decide +kernel
theorem d_X_odds_14 : decode b_X_odds 14 = .ok (.iload_n 2, 1) := by decide +kernel
theorem d_X_odds_15 : decode b_X_odds 15 = .ok (.iload_n 1, 1) := by decide +kernel
theorem d_X_odds_16 : decode b_X_odds 16 = .ok (.if_icmp .gt 12, 3) := by decide +kernel
theorem d_X_odds_19 : decode b_X_odds 19 = .ok (.iload_n 3, 1) := by decide +kernel
theorem d_X_odds_20 : decode b_X_odds 20 = .ok (.ifCond .lt 8, 3) := by decide +kernel
theorem d_X_odds_23 : decode b_X_odds 23 = .ok (.iload_n 3, 1) := by decide +kernel
theorem d_X_odds_24 : decode b_X_odds 24 = .ok (.iconst 1, 1) := by decide +kernel
theorem d_X_odds_25 : decode b_X_odds 25 = .ok (.if_icmp .le 7, 3) := by decide +kernel
theorem d_X_odds_28 : decode b_X_odds 28 = .ok (.ldc2_w 208, 3) := by decide +kernel
theorem d_X_odds_31 : decode b_X_odds 31 = .ok (.lreturn, 1) := by decide +kernel
theorem d_X_odds_32 : decode b_X_odds 32 = .ok (.iload_n 1, 1) := by decide +kernel
theorem d_X_odds_33 : decode b_X_odds 33 = .ok (.iload_n 2, 1) := by decide +kernel
theorem d_X_odds_34 : decode b_X_odds 34 = .ok (.invokestatic 210, 3) := by decide +kernel
theorem d_X_odds_37 : decode b_X_odds 37 = .ok (.lstore 4, 2) := by decide +kernel
theorem d_X_odds_39 : decode b_X_odds 39 = .ok (.lconst 1, 1) := by decide +kernel
theorem d_X_odds_40 : decode b_X_odds 40 = .ok (.lstore 6, 2) := by decide +kernel
theorem d_X_odds_42 : decode b_X_odds 42 = .ok (.iconst 0, 1) := by decide +kernel
theorem d_X_odds_43 : decode b_X_odds 43 = .ok (.istore 8, 2) := by decide +kernel
theorem d_X_odds_45 : decode b_X_odds 45 = .ok (.iload 8, 2) := by decide +kernel
theorem d_X_odds_47 : decode b_X_odds 47 = .ok (.iload_n 1, 1) := by decide +kernel
theorem d_X_odds_48 : decode b_X_odds 48 = .ok (.if_icmp .ge 54, 3) := by decide +kernel
theorem d_X_odds_51 : decode b_X_odds 51 = .ok (.lload 4, 2) := by decide +kernel
theorem d_X_odds_53 : decode b_X_odds 53 = .ok (.iload 8, 2) := by decide +kernel
theorem d_X_odds_55 : decode b_X_odds 55 = .ok (.iload_n 2, 1) := by decide +kernel
theorem d_X_odds_56 : decode b_X_odds 56 = .ok (.if_icmp .ge 16, 3) := by decide +kernel
theorem d_X_odds_59 : decode b_X_odds 59 = .ok (.aload_n 0, 1) := by decide +kernel
theorem d_X_odds_60 : decode b_X_odds 60 = .ok (.getfield 10, 3) := by decide +kernel
theorem d_X_odds_63 : decode b_X_odds 63 = .ok (.getfield 90, 3) := by decide +kernel
theorem d_X_odds_66 : decode b_X_odds 66 = .ok (.iconst 3, 1) := by decide +kernel
theorem d_X_odds_67 : decode b_X_odds 67 = .ok (.iaload, 1) := by decide +kernel
theorem d_X_odds_68 : decode b_X_odds 68 = .ok (.i2l, 1) := by decide +kernel
theorem d_X_odds_69 : decode b_X_odds 69 = .ok (.goto 16, 3) := by decide +kernel
theorem d_X_odds_72 : decode b_X_odds 72 = .ok (.bipush 100, 2) := by decide +kernel
theorem d_X_odds_74 : decode b_X_odds 74 = .ok (.aload_n 0, 1) := by decide +kernel
theorem d_X_odds_75 : decode b_X_odds 75 = .ok (.getfield 10, 3) := by decide +kernel
theorem d_X_odds_78 : decode b_X_odds 78 = .ok (.getfield 90, 3) := by decide +kernel
theorem d_X_odds_81 : decode b_X_odds 81 = .ok (.iconst 3, 1) := by decide +kernel
theorem d_X_odds_82 : decode b_X_odds 82 = .ok (.iaload, 1) := by decide +kernel
theorem d_X_odds_83 : decode b_X_odds 83 = .ok (.isub, 1) := by decide +kernel
theorem d_X_odds_84 : decode b_X_odds 84 = .ok (.i2l, 1) := by decide +kernel
theorem d_X_odds_85 : decode b_X_odds 85 = .ok (.lmul, 1) := by decide +kernel
theorem d_X_odds_86 : decode b_X_odds 86 = .ok (.lstore 4, 2) := by decide +kernel
theorem d_X_odds_88 : decode b_X_odds 88 = .ok (.lload 6, 2) := by decide +kernel
theorem d_X_odds_90 : decode b_X_odds 90 = .ok (.ldc2_w 214, 3) := by decide +kernel
theorem d_X_odds_93 : decode b_X_odds 93 = .ok (.lmul, 1) := by decide +kernel
theorem d_X_odds_94 : decode b_X_odds 94 = .ok (.lstore 6, 2) := by decide +kernel
theorem d_X_odds_96 : decode b_X_odds 96 = .ok (.iinc 8 1, 3) := by decide +kernel
theorem d_X_odds_99 : decode b_X_odds 99 = .ok (.goto (-54), 3) := by decide +kernel
theorem d_X_odds_102 : decode b_X_odds 102 = .ok (.lload 4, 2) := by decide +kernel
theorem d_X_odds_104 : decode b_X_odds 104 = .ok (.lload 6, 2) := by decide +kernel
theorem d_X_odds_106 : decode b_X_odds 106 = .ok (.iload_n 3, 1) := by decide +kernel
theorem d_X_odds_107 : decode b_X_odds 107 = .ok (.invokestatic 216, 3) := by decide +kernel
theorem d_X_odds_110 : decode b_X_odds 110 = .ok (.lreturn, 1) := by decide +kernel
theorem d_X_hope_0 : decode b_X_hope 0 = .ok (.iload_n 1, 1) := by decide +kernel
theorem d_X_hope_1 : decode b_X_hope 1 = .ok (.ifCond .lt 18, 3) := by decide +kernel
theorem d_X_hope_4 : decode b_X_hope 4 = .ok (.iload_n 1, 1) := by decide +kernel
theorem d_X_hope_5 : decode b_X_hope 5 = .ok (.bipush 99, 2) := by decide +kernel
theorem d_X_hope_7 : decode b_X_hope 7 = .ok (.if_icmp .gt 12, 3) := by decide +kernel
theorem d_X_hope_10 : decode b_X_hope 10 = .ok (.iload_n 2, 1) := by decide +kernel
theorem d_X_hope_11 : decode b_X_hope 11 = .ok (.ifCond .lt 8, 3) := by decide +kernel
theorem d_X_hope_14 : decode b_X_hope 14 = .ok (.iload_n 2, 1) := by decide +kernel
theorem d_X_hope_15 : decode b_X_hope 15 = .ok (.iconst 1, 1) := by decide +kernel
theorem d_X_hope_16 : decode b_X_hope 16 = .ok (.if_icmp .le 7, 3) := by decide +kernel
theorem d_X_hope_19 : decode b_X_hope 19 = .ok (.ldc2_w 208, 3) := by decide +kernel
theorem d_X_hope_22 : decode b_X_hope 22 = .ok (.lreturn, 1) := by decide +kernel
theorem d_X_hope_23 : decode b_X_hope 23 = .ok (.iload_n 1, 1) := by decide +kernel
theorem d_X_hope_24 : decode b_X_hope 24 = .ok (.i2l, 1) := by decide +kernel
theorem d_X_hope_25 : decode b_X_hope 25 = .ok (.aload_n 0, 1) := by decide +kernel
theorem d_X_hope_26 : decode b_X_hope 26 = .ok (.getfield 10, 3) := by decide +kernel
theorem d_X_hope_29 : decode b_X_hope 29 = .ok (.getfield 90, 3) := by decide +kernel
theorem d_X_hope_32 : decode b_X_hope 32 = .ok (.iconst 3, 1) := by decide +kernel
theorem d_X_hope_33 : decode b_X_hope 33 = .ok (.iaload, 1) := by decide +kernel
theorem d_X_hope_34 : decode b_X_hope 34 = .ok (.i2l, 1) := by decide +kernel
theorem d_X_hope_35 : decode b_X_hope 35 = .ok (.lmul, 1) := by decide +kernel
theorem d_X_hope_36 : decode b_X_hope 36 = .ok (.ldc2_w 214, 3) := by decide +kernel
theorem d_X_hope_39 : decode b_X_hope 39 = .ok (.iload_n 2, 1) := by decide +kernel
theorem d_X_hope_40 : decode b_X_hope 40 = .ok (.invokestatic 216, 3) := by decide +kernel
theorem d_X_hope_43 : decode b_X_hope 43 = .ok (.lreturn, 1) := by decide +kernel
theorem d_X_triedRowPart_0 : decode b_X_triedRowPart 0 = .ok (.aload_n 0, 1) := by decide +kernel
theorem d_X_triedRowPart_1 : decode b_X_triedRowPart 1 = .ok (.iload_n 1, 1) := by decide +kernel
theorem d_X_triedRowPart_2 : decode b_X_triedRowPart 2 = .ok (.invokevirtual 106, 3) := by decide +kernel
theorem d_X_triedRowPart_5 : decode b_X_triedRowPart 5 = .ok (.ifCond .ne 5, 3) := by decide +kernel
theorem d_X_triedRowPart_8 : decode b_X_triedRowPart 8 = .ok (.iconst 0, 1) := by decide +kernel
theorem d_X_triedRowPart_9 : decode b_X_triedRowPart 9 = .ok (.ireturn, 1) := by decide +kernel
theorem d_X_triedRowPart_10 : decode b_X_triedRowPart 10 = .ok (.iload_n 2, 1) := by decide +kernel
theorem d_X_triedRowPart_11 : decode b_X_triedRowPart 11 = .ok (.lookupswitch 45 #[(0, 25), (1, 35)], 25) := by decide +kernel
theorem d_X_triedRowPart_36 : decode b_X_triedRowPart 36 = .ok (.aload_n 0, 1) := by decide +kernel
theorem d_X_triedRowPart_37 : decode b_X_triedRowPart 37 = .ok (.getfield 16, 3) := by decide +kernel
theorem d_X_triedRowPart_40 : decode b_X_triedRowPart 40 = .ok (.getfield 118, 3) := by decide +kernel
theorem d_X_triedRowPart_43 : decode b_X_triedRowPart 43 = .ok (.iload_n 1, 1) := by decide +kernel
theorem d_X_triedRowPart_44 : decode b_X_triedRowPart 44 = .ok (.iaload, 1) := by decide +kernel
theorem d_X_triedRowPart_45 : decode b_X_triedRowPart 45 = .ok (.ireturn, 1) := by decide +kernel
theorem d_X_triedRowPart_46 : decode b_X_triedRowPart 46 = .ok (.aload_n 0, 1) := by decide +kernel
theorem d_X_triedRowPart_47 : decode b_X_triedRowPart 47 = .ok (.getfield 16, 3) := by decide +kernel
theorem d_X_triedRowPart_50 : decode b_X_triedRowPart 50 = .ok (.getfield 112, 3) := by decide +kernel
theorem d_X_triedRowPart_53 : decode b_X_triedRowPart 53 = .ok (.iload_n 1, 1) := by decide +kernel
theorem d_X_triedRowPart_54 : decode b_X_triedRowPart 54 = .ok (.iaload, 1) := by decide +kernel
theorem d_X_triedRowPart_55 : decode b_X_triedRowPart 55 = .ok (.ireturn, 1) := by decide +kernel
theorem d_X_triedRowPart_56 : decode b_X_triedRowPart 56 = .ok (.aload_n 0, 1) := by decide +kernel
theorem d_X_triedRowPart_57 : decode b_X_triedRowPart 57 = .ok (.getfield 16, 3) := by decide +kernel
theorem d_X_triedRowPart_60 : decode b_X_triedRowPart 60 = .ok (.invokevirtual 168, 3) := by decide +kernel
theorem d_X_triedRowPart_63 : decode b_X_triedRowPart 63 = .ok (.ireturn, 1) := by decide +kernel
theorem d_X_prove_0 : decode b_X_prove 0 = .ok (.aload_n 0, 1) := by decide +kernel
theorem d_X_prove_1 : decode b_X_prove 1 = .ok (.iload_n 1, 1) := by decide +kernel
theorem d_X_prove_2 : decode b_X_prove 2 = .ok (.invokevirtual 106, 3) := by decide +kernel
theorem d_X_prove_5 : decode b_X_prove 5 = .ok (.ifCond .eq 14, 3) := by decide +kernel
theorem d_X_prove_8 : decode b_X_prove 8 = .ok (.iload_n 2, 1) := by decide +kernel
theorem d_X_prove_9 : decode b_X_prove 9 = .ok (.iconst 1, 1) := by decide +kernel
theorem d_X_prove_10 : decode b_X_prove 10 = .ok (.if_icmp .lt 9, 3) := by decide +kernel
theorem d_X_prove_13 : decode b_X_prove 13 = .ok (.iload_n 2, 1) := by decide +kernel
theorem d_X_prove_14 : decode b_X_prove 14 = .ok (.bipush 10, 2) := by decide +kernel
theorem d_X_prove_16 : decode b_X_prove 16 = .ok (.if_icmp .le 5, 3) := by decide +kernel
theorem d_X_prove_19 : decode b_X_prove 19 = .ok (.iconst (-1), 1) := by decide +kernel
theorem d_X_prove_20 : decode b_X_prove 20 = .ok (.ireturn, 1) := by decide +kernel
theorem d_X_prove_21 : decode b_X_prove 21 = .ok (.aload_n 0, 1) := by decide +kernel
theorem d_X_prove_22 : decode b_X_prove 22 = .ok (.getfield 16, 3) := by decide +kernel
theorem d_X_prove_25 : decode b_X_prove 25 = .ok (.aload_n 0, 1) := by decide +kernel
theorem d_X_prove_26 : decode b_X_prove 26 = .ok (.getfield 10, 3) := by decide +kernel
theorem d_X_prove_29 : decode b_X_prove 29 = .ok (.invokevirtual 69, 3) := by decide +kernel
theorem d_X_prove_32 : decode b_X_prove 32 = .ok (.iconst 0, 1) := by decide +kernel
theorem d_X_prove_33 : decode b_X_prove 33 = .ok (.istore_n 3, 1) := by decide +kernel
theorem d_X_prove_34 : decode b_X_prove 34 = .ok (.iload_n 3, 1) := by decide +kernel
theorem d_X_prove_35 : decode b_X_prove 35 = .ok (.iload_n 2, 1) := by decide +kernel
theorem d_X_prove_36 : decode b_X_prove 36 = .ok (.if_icmp .ge 49, 3) := by decide +kernel
theorem d_X_prove_39 : decode b_X_prove 39 = .ok (.aload_n 0, 1) := by decide +kernel
theorem d_X_prove_40 : decode b_X_prove 40 = .ok (.getfield 16, 3) := by decide +kernel
theorem d_X_prove_43 : decode b_X_prove 43 = .ok (.invokevirtual 183, 3) := by decide +kernel
theorem d_X_prove_46 : decode b_X_prove 46 = .ok (.iconst 0, 1) := by decide +kernel
theorem d_X_prove_47 : decode b_X_prove 47 = .ok (.istore 4, 2) := by decide +kernel
theorem d_X_prove_49 : decode b_X_prove 49 = .ok (.iload 4, 2) := by decide +kernel
theorem d_X_prove_51 : decode b_X_prove 51 = .ok (.iconst 3, 1) := by decide +kernel
theorem d_X_prove_52 : decode b_X_prove 52 = .ok (.if_icmp .ge 27, 3) := by decide +kernel
theorem d_X_prove_55 : decode b_X_prove 55 = .ok (.aload_n 0, 1) := by decide +kernel
theorem d_X_prove_56 : decode b_X_prove 56 = .ok (.getfield 33, 3) := by decide +kernel
theorem d_X_prove_59 : decode b_X_prove 59 = .ok (.iload_n 3, 1) := by decide +kernel
theorem d_X_prove_60 : decode b_X_prove 60 = .ok (.iconst 3, 1) := by decide +kernel
theorem d_X_prove_61 : decode b_X_prove 61 = .ok (.imul, 1) := by decide +kernel
theorem d_X_prove_62 : decode b_X_prove 62 = .ok (.iload 4, 2) := by decide +kernel
theorem d_X_prove_64 : decode b_X_prove 64 = .ok (.iadd, 1) := by decide +kernel
theorem d_X_prove_65 : decode b_X_prove 65 = .ok (.aload_n 0, 1) := by decide +kernel
theorem d_X_prove_66 : decode b_X_prove 66 = .ok (.iload_n 1, 1) := by decide +kernel
theorem d_X_prove_67 : decode b_X_prove 67 = .ok (.iload 4, 2) := by decide +kernel
theorem d_X_prove_69 : decode b_X_prove 69 = .ok (.invokevirtual 220, 3) := by decide +kernel
theorem d_X_prove_72 : decode b_X_prove 72 = .ok (.iastore, 1) := by decide +kernel
theorem d_X_prove_73 : decode b_X_prove 73 = .ok (.iinc 4 1, 3) := by decide +kernel
theorem d_X_prove_76 : decode b_X_prove 76 = .ok (.goto (-27), 3) := by decide +kernel
theorem d_X_prove_79 : decode b_X_prove 79 = .ok (.iinc 3 1, 3) := by decide +kernel
theorem d_X_prove_82 : decode b_X_prove 82 = .ok (.goto (-48), 3) := by decide +kernel
theorem d_X_prove_85 : decode b_X_prove 85 = .ok (.aload_n 0, 1) := by decide +kernel
theorem d_X_prove_86 : decode b_X_prove 86 = .ok (.iload_n 2, 1) := by decide +kernel
theorem d_X_prove_87 : decode b_X_prove 87 = .ok (.putfield 37, 3) := by decide +kernel
theorem d_X_prove_90 : decode b_X_prove 90 = .ok (.iload_n 2, 1) := by decide +kernel
theorem d_X_prove_91 : decode b_X_prove 91 = .ok (.ireturn, 1) := by decide +kernel
theorem d_X_isRowPart_0 : decode b_X_isRowPart 0 = .ok (.iload_n 1, 1) := by decide +kernel
theorem d_X_isRowPart_1 : decode b_X_isRowPart 1 = .ok (.ifCond .lt 30, 3) := by decide +kernel
theorem d_X_isRowPart_4 : decode b_X_isRowPart 4 = .ok (.iload_n 1, 1) := by decide +kernel
theorem d_X_isRowPart_5 : decode b_X_isRowPart 5 = .ok (.aload_n 0, 1) := by decide +kernel
theorem d_X_isRowPart_6 : decode b_X_isRowPart 6 = .ok (.getfield 37, 3) := by decide +kernel
theorem d_X_isRowPart_9 : decode b_X_isRowPart 9 = .ok (.if_icmp .ge 22, 3) := by decide +kernel
theorem d_X_isRowPart_12 : decode b_X_isRowPart 12 = .ok (.iload_n 1, 1) := by decide +kernel
theorem d_X_isRowPart_13 : decode b_X_isRowPart 13 = .ok (.bipush 10, 2) := by decide +kernel
theorem d_X_isRowPart_15 : decode b_X_isRowPart 15 = .ok (.if_icmp .ge 16, 3) := by decide +kernel
theorem d_X_isRowPart_18 : decode b_X_isRowPart 18 = .ok (.iload_n 2, 1) := by decide +kernel
theorem d_X_isRowPart_19 : decode b_X_isRowPart 19 = .ok (.ifCond .lt 12, 3) := by decide +kernel
theorem d_X_isRowPart_22 : decode b_X_isRowPart 22 = .ok (.iload_n 2, 1) := by decide +kernel
theorem d_X_isRowPart_23 : decode b_X_isRowPart 23 = .ok (.iconst 3, 1) := by decide +kernel
theorem d_X_isRowPart_24 : decode b_X_isRowPart 24 = .ok (.if_icmp .ge 7, 3) := by decide +kernel
theorem d_X_isRowPart_27 : decode b_X_isRowPart 27 = .ok (.iconst 1, 1) := by decide +kernel
theorem d_X_isRowPart_28 : decode b_X_isRowPart 28 = .ok (.goto 4, 3) := by decide +kernel
theorem d_X_isRowPart_31 : decode b_X_isRowPart 31 = .ok (.iconst 0, 1) := by decide +kernel
theorem d_X_isRowPart_32 : decode b_X_isRowPart 32 = .ok (.ireturn, 1) := by decide +kernel
theorem d_X_row_0 : decode b_X_row 0 = .ok (.aload_n 0, 1) := by decide +kernel
theorem d_X_row_1 : decode b_X_row 1 = .ok (.iload_n 1, 1) := by decide +kernel
theorem d_X_row_2 : decode b_X_row 2 = .ok (.iload_n 2, 1) := by decide +kernel
theorem d_X_row_3 : decode b_X_row 3 = .ok (.invokevirtual 223, 3) := by decide +kernel
theorem d_X_row_6 : decode b_X_row 6 = .ok (.ifCond .eq 16, 3) := by decide +kernel
theorem d_X_row_9 : decode b_X_row 9 = .ok (.aload_n 0, 1) := by decide +kernel
theorem d_X_row_10 : decode b_X_row 10 = .ok (.getfield 33, 3) := by decide +kernel
theorem d_X_row_13 : decode b_X_row 13 = .ok (.iload_n 1, 1) := by decide +kernel
theorem d_X_row_14 : decode b_X_row 14 = .ok (.iconst 3, 1) := by decide +kernel
theorem d_X_row_15 : decode b_X_row 15 = .ok (.imul, 1) := by decide +kernel
theorem d_X_row_16 : decode b_X_row 16 = .ok (.iload_n 2, 1) := by decide +kernel
theorem d_X_row_17 : decode b_X_row 17 = .ok (.iadd, 1) := by decide +kernel
theorem d_X_row_18 : decode b_X_row 18 = .ok (.iaload, 1) := by decide +kernel
theorem d_X_row_19 : decode b_X_row 19 = .ok (.goto 5, 3) := by decide +kernel
theorem d_X_row_22 : decode b_X_row 22 = .ok (.bipush (-9), 2) := by decide +kernel
theorem d_X_row_24 : decode b_X_row 24 = .ok (.ireturn, 1) := by decide +kernel
theorem d_X_alterRow_0 : decode b_X_alterRow 0 = .ok (.aload_n 0, 1) := by decide +kernel
theorem d_X_alterRow_1 : decode b_X_alterRow 1 = .ok (.iload_n 1, 1) := by decide +kernel
theorem d_X_alterRow_2 : decode b_X_alterRow 2 = .ok (.iload_n 2, 1) := by decide +kernel
theorem d_X_alterRow_3 : decode b_X_alterRow 3 = .ok (.invokevirtual 223, 3) := by decide +kernel
theorem d_X_alterRow_6 : decode b_X_alterRow 6 = .ok (.ifCond .ne 6, 3) := by decide +kernel
theorem d_X_alterRow_9 : decode b_X_alterRow 9 = .ok (.bipush (-9), 2) := by decide +kernel
theorem d_X_alterRow_11 : decode b_X_alterRow 11 = .ok (.ireturn, 1) := by decide +kernel
theorem d_X_alterRow_12 : decode b_X_alterRow 12 = .ok (.aload_n 0, 1) := by decide +kernel
theorem d_X_alterRow_13 : decode b_X_alterRow 13 = .ok (.getfield 33, 3) := by decide +kernel
theorem d_X_alterRow_16 : decode b_X_alterRow 16 = .ok (.iload_n 1, 1) := by decide +kernel
theorem d_X_alterRow_17 : decode b_X_alterRow 17 = .ok (.iconst 3, 1) := by decide +kernel
theorem d_X_alterRow_18 : decode b_X_alterRow 18 = .ok (.imul, 1) := by decide +kernel
theorem d_X_alterRow_19 : decode b_X_alterRow 19 = .ok (.iload_n 2, 1) := by decide +kernel
theorem d_X_alterRow_20 : decode b_X_alterRow 20 = .ok (.iadd, 1) := by decide +kernel
theorem d_X_alterRow_21 : decode b_X_alterRow 21 = .ok (.iaload, 1) := by decide +kernel
theorem d_X_alterRow_22 : decode b_X_alterRow 22 = .ok (.istore 4, 2) := by decide +kernel
theorem d_X_alterRow_24 : decode b_X_alterRow 24 = .ok (.aload_n 0, 1) := by decide +kernel
theorem d_X_alterRow_25 : decode b_X_alterRow 25 = .ok (.getfield 33, 3) := by decide +kernel
theorem d_X_alterRow_28 : decode b_X_alterRow 28 = .ok (.iload_n 1, 1) := by decide +kernel
theorem d_X_alterRow_29 : decode b_X_alterRow 29 = .ok (.iconst 3, 1) := by decide +kernel
theorem d_X_alterRow_30 : decode b_X_alterRow 30 = .ok (.imul, 1) := by decide +kernel
theorem d_X_alterRow_31 : decode b_X_alterRow 31 = .ok (.iload_n 2, 1) := by decide +kernel
theorem d_X_alterRow_32 : decode b_X_alterRow 32 = .ok (.iadd, 1) := by decide +kernel
theorem d_X_alterRow_33 : decode b_X_alterRow 33 = .ok (.iload_n 3, 1) := by decide +kernel
theorem d_X_alterRow_34 : decode b_X_alterRow 34 = .ok (.iastore, 1) := by decide +kernel
theorem d_X_alterRow_35 : decode b_X_alterRow 35 = .ok (.iload 4, 2) := by decide +kernel
theorem d_X_alterRow_37 : decode b_X_alterRow 37 = .ok (.ireturn, 1) := by decide +kernel
theorem d_X_judge_0 : decode b_X_judge 0 = .ok (.aload_n 0, 1) := by decide +kernel
theorem d_X_judge_1 : decode b_X_judge 1 = .ok (.iload_n 1, 1) := by decide +kernel
theorem d_X_judge_2 : decode b_X_judge 2 = .ok (.invokevirtual 106, 3) := by decide +kernel
theorem d_X_judge_5 : decode b_X_judge 5 = .ok (.ifCond .ne 5, 3) := by decide +kernel
theorem d_X_judge_8 : decode b_X_judge 8 = .ok (.iconst (-1), 1) := by decide +kernel
theorem d_X_judge_9 : decode b_X_judge 9 = .ok (.ireturn, 1) := by decide +kernel
theorem d_X_judge_10 : decode b_X_judge 10 = .ok (.aload_n 0, 1) := by decide +kernel
theorem d_X_judge_11 : decode b_X_judge 11 = .ok (.getfield 16, 3) := by decide +kernel
theorem d_X_judge_14 : decode b_X_judge 14 = .ok (.aload_n 0, 1) := by decide +kernel
theorem d_X_judge_15 : decode b_X_judge 15 = .ok (.getfield 10, 3) := by decide +kernel
theorem d_X_judge_18 : decode b_X_judge 18 = .ok (.invokevirtual 69, 3) := by decide +kernel
theorem d_X_judge_21 : decode b_X_judge 21 = .ok (.iconst 0, 1) := by decide +kernel
theorem d_X_judge_22 : decode b_X_judge 22 = .ok (.istore_n 2, 1) := by decide +kernel
theorem d_X_judge_23 : decode b_X_judge 23 = .ok (.iload_n 2, 1) := by decide +kernel
theorem d_X_judge_24 : decode b_X_judge 24 = .ok (.aload_n 0, 1) := by decide +kernel
theorem d_X_judge_25 : decode b_X_judge 25 = .ok (.getfield 37, 3) := by decide +kernel
theorem d_X_judge_28 : decode b_X_judge 28 = .ok (.if_icmp .ge 58, 3) := by decide +kernel
theorem d_X_judge_31 : decode b_X_judge 31 = .ok (.iload_n 2, 1) := by decide +kernel
theorem d_X_judge_32 : decode b_X_judge 32 = .ok (.bipush 10, 2) := by decide +kernel
theorem d_X_judge_34 : decode b_X_judge 34 = .ok (.if_icmp .ge 52, 3) := by decide +kernel
theorem d_X_judge_37 : decode b_X_judge 37 = .ok (.aload_n 0, 1) := by decide +kernel
theorem d_X_judge_38 : decode b_X_judge 38 = .ok (.getfield 16, 3) := by decide +kernel
theorem d_X_judge_41 : decode b_X_judge 41 = .ok (.invokevirtual 183, 3) := by decide +kernel
theorem d_X_judge_44 : decode b_X_judge 44 = .ok (.iconst 0, 1) := by decide +kernel
theorem d_X_judge_45 : decode b_X_judge 45 = .ok (.istore_n 3, 1) := by decide +kernel
theorem d_X_judge_46 : decode b_X_judge 46 = .ok (.iload_n 3, 1) := by decide +kernel
theorem d_X_judge_47 : decode b_X_judge 47 = .ok (.iconst 3, 1) := by decide +kernel
theorem d_X_judge_48 : decode b_X_judge 48 = .ok (.if_icmp .ge 32, 3) := by decide +kernel
theorem d_X_judge_51 : decode b_X_judge 51 = .ok (.aload_n 0, 1) := by decide +kernel
theorem d_X_judge_52 : decode b_X_judge 52 = .ok (.getfield 33, 3) := by decide +kernel
theorem d_X_judge_55 : decode b_X_judge 55 = .ok (.iload_n 2, 1) := by decide +kernel
theorem d_X_judge_56 : decode b_X_judge 56 = .ok (.iconst 3, 1) := by decide +kernel
theorem d_X_judge_57 : decode b_X_judge 57 = .ok (.imul, 1) := by decide +kernel
theorem d_X_judge_58 : decode b_X_judge 58 = .ok (.iload_n 3, 1) := by decide +kernel
theorem d_X_judge_59 : decode b_X_judge 59 = .ok (.iadd, 1) := by decide +kernel
theorem d_X_judge_60 : decode b_X_judge 60 = .ok (.iaload, 1) := by decide +kernel
theorem d_X_judge_61 : decode b_X_judge 61 = .ok (.aload_n 0, 1) := by decide +kernel
theorem d_X_judge_62 : decode b_X_judge 62 = .ok (.iload_n 1, 1) := by decide +kernel
theorem d_X_judge_63 : decode b_X_judge 63 = .ok (.iload_n 3, 1) := by decide +kernel
theorem d_X_judge_64 : decode b_X_judge 64 = .ok (.invokevirtual 220, 3) := by decide +kernel
theorem d_X_judge_67 : decode b_X_judge 67 = .ok (.if_icmp .eq 7, 3) := by decide +kernel
theorem d_X_judge_70 : decode b_X_judge 70 = .ok (.iload_n 2, 1) := by decide +kernel
theorem d_X_judge_71 : decode b_X_judge 71 = .ok (.iconst 1, 1) := by decide +kernel
theorem d_X_judge_72 : decode b_X_judge 72 = .ok (.iadd, 1) := by decide +kernel
theorem d_X_judge_73 : decode b_X_judge 73 = .ok (.ireturn, 1) := by decide +kernel
theorem d_X_judge_74 : decode b_X_judge 74 = .ok (.iinc 3 1, 3) := by decide +kernel
theorem d_X_judge_77 : decode b_X_judge 77 = .ok (.goto (-31), 3) := by decide +kernel
theorem d_X_judge_80 : decode b_X_judge 80 = .ok (.iinc 2 1, 3) := by decide +kernel
theorem d_X_judge_83 : decode b_X_judge 83 = .ok (.goto (-60), 3) := by decide +kernel
theorem d_X_judge_86 : decode b_X_judge 86 = .ok (.iconst 0, 1) := by decide +kernel
theorem d_X_judge_87 : decode b_X_judge 87 = .ok (.ireturn, 1) := by decide +kernel
