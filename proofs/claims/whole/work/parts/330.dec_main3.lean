theorem d_X_minds_0 : decode b_X_minds 0 = .ok (.aload_n 0, 1) := by decide +kernel
theorem d_X_minds_1 : decode b_X_minds 1 = .ok (.iload_n 1, 1) := by decide +kernel
theorem d_X_minds_2 : decode b_X_minds 2 = .ok (.invokevirtual 198, 3) := by decide +kernel
theorem d_X_minds_5 : decode b_X_minds 5 = .ok (.astore 5, 2) := by decide +kernel
theorem d_X_minds_7 : decode b_X_minds 7 = .ok (.aload 5, 2) := by decide +kernel
theorem d_X_minds_9 : decode b_X_minds 9 = .ok (.ifnull 37, 3) := by decide +kernel
theorem d_X_minds_12 : decode b_X_minds 12 = .ok (.aload_n 0, 1) := by decide +kernel
theorem d_X_minds_13 : decode b_X_minds 13 = .ok (.iload_n 3, 1) := by decide +kernel
theorem d_X_minds_14 : decode b_X_minds 14 = .ok (.invokevirtual 106, 3) := by decide +kernel
theorem d_X_minds_17 : decode b_X_minds 17 = .ok (.ifCond .eq 29, 3) := by decide +kernel
theorem d_X_minds_20 : decode b_X_minds 20 = .ok (.iload 4, 2) := by decide +kernel
theorem d_X_minds_22 : decode b_X_minds 22 = .ok (.ifCond .lt 24, 3) := by decide +kernel
theorem d_X_minds_25 : decode b_X_minds 25 = .ok (.iload 4, 2) := by decide +kernel
theorem d_X_minds_27 : decode b_X_minds 27 = .ok (.bipush 8, 2) := by decide +kernel
theorem d_X_minds_29 : decode b_X_minds 29 = .ok (.if_icmp .gt 17, 3) := by decide +kernel
theorem d_X_minds_32 : decode b_X_minds 32 = .ok (.iload 4, 2) := by decide +kernel
theorem d_X_minds_34 : decode b_X_minds 34 = .ok (.aload_n 0, 1) := by decide +kernel
theorem d_X_minds_35 : decode b_X_minds 35 = .ok (.getfield 10, 3) := by decide +kernel
theorem d_X_minds_38 : decode b_X_minds 38 = .ok (.getfield 80, 3) := by decide +kernel
theorem d_X_minds_41 : decode b_X_minds 41 = .ok (.iload_n 3, 1) := by decide +kernel
theorem d_X_minds_42 : decode b_X_minds 42 = .ok (.isub, 1) := by decide +kernel
theorem d_X_minds_43 : decode b_X_minds 43 = .ok (.if_icmp .le 5, 3) := by decide +kernel
theorem d_X_minds_46 : decode b_X_minds 46 = .ok (.iconst (-1), 1) := by decide +kernel
theorem d_X_minds_47 : decode b_X_minds 47 = .ok (.ireturn, 1) := by decide +kernel
theorem d_X_minds_48 : decode b_X_minds 48 = .ok (.aload 5, 2) := by decide +kernel
theorem d_X_minds_50 : decode b_X_minds 50 = .ok (.getfield 202, 3) := by decide +kernel
theorem d_X_minds_53 : decode b_X_minds 53 = .ok (.iconst (-1), 1) := by decide +kernel
theorem d_X_minds_54 : decode b_X_minds 54 = .ok (.if_icmp .ne 6, 3) := by decide +kernel
theorem d_X_minds_57 : decode b_X_minds 57 = .ok (.bipush (-11), 2) := by decide +kernel
theorem d_X_minds_59 : decode b_X_minds 59 = .ok (.ireturn, 1) := by decide +kernel
theorem d_X_minds_60 : decode b_X_minds 60 = .ok (.aload 5, 2) := by decide +kernel
theorem d_X_minds_62 : decode b_X_minds 62 = .ok (.getfield 202, 3) := by decide +kernel
theorem d_X_minds_65 : decode b_X_minds 65 = .ok (.ifCond .eq 6, 3) := by decide +kernel
theorem d_X_minds_68 : decode b_X_minds 68 = .ok (.bipush (-13), 2) := by decide +kernel
theorem d_X_minds_70 : decode b_X_minds 70 = .ok (.ireturn, 1) := by decide +kernel
theorem d_X_minds_71 : decode b_X_minds 71 = .ok (.iload_n 2, 1) := by decide +kernel
theorem d_X_minds_72 : decode b_X_minds 72 = .ok (.ifCond .lt 24, 3) := by decide +kernel
theorem d_X_minds_75 : decode b_X_minds 75 = .ok (.iload_n 2, 1) := by decide +kernel
theorem d_X_minds_76 : decode b_X_minds 76 = .ok (.aload 5, 2) := by decide +kernel
theorem d_X_minds_78 : decode b_X_minds 78 = .ok (.getfield 227, 3) := by decide +kernel
theorem d_X_minds_81 : decode b_X_minds 81 = .ok (.if_icmp .gt 15, 3) := by decide +kernel
theorem d_X_minds_84 : decode b_X_minds 84 = .ok (.iload 4, 2) := by decide +kernel
theorem d_X_minds_86 : decode b_X_minds 86 = .ok (.aload 5, 2) := by decide +kernel
theorem d_X_minds_88 : decode b_X_minds 88 = .ok (.getfield 227, 3) := by decide +kernel
theorem d_X_minds_91 : decode b_X_minds 91 = .ok (.iload_n 2, 1) := by decide +kernel
theorem d_X_minds_92 : decode b_X_minds 92 = .ok (.isub, 1) := by decide +kernel
theorem d_X_minds_93 : decode b_X_minds 93 = .ok (.if_icmp .le 6, 3) := by decide +kernel
theorem d_X_minds_96 : decode b_X_minds 96 = .ok (.bipush (-12), 2) := by decide +kernel
theorem d_X_minds_98 : decode b_X_minds 98 = .ok (.ireturn, 1) := by decide +kernel
theorem d_X_minds_99 : decode b_X_minds 99 = .ok (.iconst 0, 1) := by decide +kernel
theorem d_X_minds_100 : decode b_X_minds 100 = .ok (.istore 6, 2) := by decide +kernel
theorem d_X_minds_102 : decode b_X_minds 102 = .ok (.iload 6, 2) := by decide +kernel
theorem d_X_minds_104 : decode b_X_minds 104 = .ok (.iload 4, 2) := by decide +kernel
theorem d_X_minds_106 : decode b_X_minds 106 = .ok (.if_icmp .ge 34, 3) := by decide +kernel
theorem d_X_minds_109 : decode b_X_minds 109 = .ok (.aload_n 0, 1) := by decide +kernel
theorem d_X_minds_110 : decode b_X_minds 110 = .ok (.getfield 10, 3) := by decide +kernel
theorem d_X_minds_113 : decode b_X_minds 113 = .ok (.getfield 112, 3) := by decide +kernel
theorem d_X_minds_116 : decode b_X_minds 116 = .ok (.iload_n 3, 1) := by decide +kernel
theorem d_X_minds_117 : decode b_X_minds 117 = .ok (.iload 6, 2) := by decide +kernel
theorem d_X_minds_119 : decode b_X_minds 119 = .ok (.iadd, 1) := by decide +kernel
theorem d_X_minds_120 : decode b_X_minds 120 = .ok (.aload 5, 2) := by decide +kernel
theorem d_X_minds_122 : decode b_X_minds 122 = .ok (.getfield 228, 3) := by decide +kernel
theorem d_X_minds_125 : decode b_X_minds 125 = .ok (.iload_n 2, 1) := by decide +kernel
theorem d_X_minds_126 : decode b_X_minds 126 = .ok (.iload 6, 2) := by decide +kernel
theorem d_X_minds_128 : decode b_X_minds 128 = .ok (.iadd, 1) := by decide +kernel
theorem d_X_minds_129 : decode b_X_minds 129 = .ok (.iaload, 1) := by decide +kernel
theorem d_X_minds_130 : decode b_X_minds 130 = .ok (.invokestatic 231, 3) := by decide +kernel
theorem d_X_minds_133 : decode b_X_minds 133 = .ok (.iastore, 1) := by decide +kernel
theorem d_X_minds_134 : decode b_X_minds 134 = .ok (.iinc 6 1, 3) := by decide +kernel
theorem d_X_minds_137 : decode b_X_minds 137 = .ok (.goto (-35), 3) := by decide +kernel
theorem d_X_minds_140 : decode b_X_minds 140 = .ok (.iload 4, 2) := by decide +kernel
theorem d_X_minds_142 : decode b_X_minds 142 = .ok (.ireturn, 1) := by decide +kernel
theorem d_X_sheet_0 : decode b_X_sheet 0 = .ok (.aload_n 0, 1) := by decide +kernel
theorem d_X_sheet_1 : decode b_X_sheet 1 = .ok (.iload_n 1, 1) := by decide +kernel
theorem d_X_sheet_2 : decode b_X_sheet 2 = .ok (.invokevirtual 198, 3) := by decide +kernel
theorem d_X_sheet_5 : decode b_X_sheet 5 = .ok (.astore 4, 2) := by decide +kernel
theorem d_X_sheet_7 : decode b_X_sheet 7 = .ok (.aload 4, 2) := by decide +kernel
theorem d_X_sheet_9 : decode b_X_sheet 9 = .ok (.ifnull 13, 3) := by decide +kernel
theorem d_X_sheet_12 : decode b_X_sheet 12 = .ok (.iload_n 2, 1) := by decide +kernel
theorem d_X_sheet_13 : decode b_X_sheet 13 = .ok (.iconst (-1), 1) := by decide +kernel
theorem d_X_sheet_14 : decode b_X_sheet 14 = .ok (.if_icmp .lt 8, 3) := by decide +kernel
theorem d_X_sheet_17 : decode b_X_sheet 17 = .ok (.iload_n 2, 1) := by decide +kernel
theorem d_X_sheet_18 : decode b_X_sheet 18 = .ok (.iconst 3, 1) := by decide +kernel
theorem d_X_sheet_19 : decode b_X_sheet 19 = .ok (.if_icmp .le 5, 3) := by decide +kernel
theorem d_X_sheet_22 : decode b_X_sheet 22 = .ok (.iconst (-1), 1) := by decide +kernel
theorem d_X_sheet_23 : decode b_X_sheet 23 = .ok (.ireturn, 1) := by decide +kernel
theorem d_X_sheet_24 : decode b_X_sheet 24 = .ok (.iload_n 2, 1) := by decide +kernel
theorem d_X_sheet_25 : decode b_X_sheet 25 = .ok (.iconst (-1), 1) := by decide +kernel
theorem d_X_sheet_26 : decode b_X_sheet 26 = .ok (.if_icmp .ne 12, 3) := by decide +kernel
theorem d_X_sheet_29 : decode b_X_sheet 29 = .ok (.aload 4, 2) := by decide +kernel
theorem d_X_sheet_31 : decode b_X_sheet 31 = .ok (.iconst (-1), 1) := by decide +kernel
theorem d_X_sheet_32 : decode b_X_sheet 32 = .ok (.iconst 0, 1) := by decide +kernel
theorem d_X_sheet_33 : decode b_X_sheet 33 = .ok (.invokevirtual 234, 3) := by decide +kernel
theorem d_X_sheet_36 : decode b_X_sheet 36 = .ok (.iconst 1, 1) := by decide +kernel
theorem d_X_sheet_37 : decode b_X_sheet 37 = .ok (.ireturn, 1) := by decide +kernel
theorem d_X_sheet_38 : decode b_X_sheet 38 = .ok (.iload_n 3, 1) := by decide +kernel
theorem d_X_sheet_39 : decode b_X_sheet 39 = .ok (.bipush 40, 2) := by decide +kernel
theorem d_X_sheet_41 : decode b_X_sheet 41 = .ok (.if_icmp .le 5, 3) := by decide +kernel
theorem d_X_sheet_44 : decode b_X_sheet 44 = .ok (.iconst (-1), 1) := by decide +kernel
theorem d_X_sheet_45 : decode b_X_sheet 45 = .ok (.ireturn, 1) := by decide +kernel
theorem d_X_sheet_46 : decode b_X_sheet 46 = .ok (.iload_n 3, 1) := by decide +kernel
theorem d_X_sheet_47 : decode b_X_sheet 47 = .ok (.ifCond .ge 6, 3) := by decide +kernel
theorem d_X_sheet_50 : decode b_X_sheet 50 = .ok (.bipush (-14), 2) := by decide +kernel
theorem d_X_sheet_52 : decode b_X_sheet 52 = .ok (.ireturn, 1) := by decide +kernel
theorem d_X_sheet_53 : decode b_X_sheet 53 = .ok (.aload 4, 2) := by decide +kernel
theorem d_X_sheet_55 : decode b_X_sheet 55 = .ok (.iload_n 2, 1) := by decide +kernel
theorem d_X_sheet_56 : decode b_X_sheet 56 = .ok (.iload_n 3, 1) := by decide +kernel
theorem d_X_sheet_57 : decode b_X_sheet 57 = .ok (.invokevirtual 234, 3) := by decide +kernel
theorem d_X_sheet_60 : decode b_X_sheet 60 = .ok (.iconst 1, 1) := by decide +kernel
theorem d_X_sheet_61 : decode b_X_sheet 61 = .ok (.ireturn, 1) := by decide +kernel
theorem d_X_put_0 : decode b_X_put 0 = .ok (.aload_n 0, 1) := by decide +kernel
theorem d_X_put_1 : decode b_X_put 1 = .ok (.iload_n 1, 1) := by decide +kernel
theorem d_X_put_2 : decode b_X_put 2 = .ok (.invokevirtual 198, 3) := by decide +kernel
theorem d_X_put_5 : decode b_X_put 5 = .ok (.astore 4, 2) := by decide +kernel
theorem d_X_put_7 : decode b_X_put 7 = .ok (.aload 4, 2) := by decide +kernel
theorem d_X_put_9 : decode b_X_put 9 = .ok (.ifnonnull 5, 3) := by decide +kernel
theorem d_X_put_12 : decode b_X_put 12 = .ok (.iconst (-1), 1) := by decide +kernel
theorem d_X_put_13 : decode b_X_put 13 = .ok (.ireturn, 1) := by decide +kernel
theorem d_X_put_14 : decode b_X_put 14 = .ok (.aload 4, 2) := by decide +kernel
theorem d_X_put_16 : decode b_X_put 16 = .ok (.getfield 202, 3) := by decide +kernel
theorem d_X_put_19 : decode b_X_put 19 = .ok (.iconst (-1), 1) := by decide +kernel
theorem d_X_put_20 : decode b_X_put 20 = .ok (.if_icmp .ne 6, 3) := by decide +kernel
theorem d_X_put_23 : decode b_X_put 23 = .ok (.bipush (-11), 2) := by decide +kernel
theorem d_X_put_25 : decode b_X_put 25 = .ok (.ireturn, 1) := by decide +kernel
theorem d_X_put_26 : decode b_X_put 26 = .ok (.aload 4, 2) := by decide +kernel
theorem d_X_put_28 : decode b_X_put 28 = .ok (.iload_n 2, 1) := by decide +kernel
theorem d_X_put_29 : decode b_X_put 29 = .ok (.invokevirtual 238, 3) := by decide +kernel
theorem d_X_put_32 : decode b_X_put 32 = .ok (.ifCond .ne 6, 3) := by decide +kernel
theorem d_X_put_35 : decode b_X_put 35 = .ok (.bipush (-12), 2) := by decide +kernel
theorem d_X_put_37 : decode b_X_put 37 = .ok (.ireturn, 1) := by decide +kernel
theorem d_X_put_38 : decode b_X_put 38 = .ok (.aload 4, 2) := by decide +kernel
theorem d_X_put_40 : decode b_X_put 40 = .ok (.getfield 228, 3) := by decide +kernel
theorem d_X_put_43 : decode b_X_put 43 = .ok (.iload_n 2, 1) := by decide +kernel
theorem d_X_put_44 : decode b_X_put 44 = .ok (.aload 4, 2) := by decide +kernel
theorem d_X_put_46 : decode b_X_put 46 = .ok (.iload_n 3, 1) := by decide +kernel
theorem d_X_put_47 : decode b_X_put 47 = .ok (.invokevirtual 241, 3) := by decide +kernel
theorem d_X_put_50 : decode b_X_put 50 = .ok (.iastore, 1) := by decide +kernel
theorem d_X_put_51 : decode b_X_put 51 = .ok (.iconst 1, 1) := by decide +kernel
theorem d_X_put_52 : decode b_X_put 52 = .ok (.ireturn, 1) := by decide +kernel
theorem d_X_item_0 : decode b_X_item 0 = .ok (.aload_n 0, 1) := by decide +kernel
theorem d_X_item_1 : decode b_X_item 1 = .ok (.iload_n 1, 1) := by decide +kernel
theorem d_X_item_2 : decode b_X_item 2 = .ok (.invokevirtual 198, 3) := by decide +kernel
theorem d_X_item_5 : decode b_X_item 5 = .ok (.astore 4, 2) := by decide +kernel
theorem d_X_item_7 : decode b_X_item 7 = .ok (.aload 4, 2) := by decide +kernel
theorem d_X_item_9 : decode b_X_item 9 = .ok (.ifnull 12, 3) := by decide +kernel
theorem d_X_item_12 : decode b_X_item 12 = .ok (.iload_n 2, 1) := by decide +kernel
theorem d_X_item_13 : decode b_X_item 13 = .ok (.ifCond .lt 8, 3) := by decide +kernel
theorem d_X_item_16 : decode b_X_item 16 = .ok (.iload_n 2, 1) := by decide +kernel
theorem d_X_item_17 : decode b_X_item 17 = .ok (.iconst 3, 1) := by decide +kernel
theorem d_X_item_18 : decode b_X_item 18 = .ok (.if_icmp .le 5, 3) := by decide +kernel
theorem d_X_item_21 : decode b_X_item 21 = .ok (.iconst (-1), 1) := by decide +kernel
theorem d_X_item_22 : decode b_X_item 22 = .ok (.ireturn, 1) := by decide +kernel
theorem d_X_item_23 : decode b_X_item 23 = .ok (.aload 4, 2) := by decide +kernel
theorem d_X_item_25 : decode b_X_item 25 = .ok (.getfield 202, 3) := by decide +kernel
theorem d_X_item_28 : decode b_X_item 28 = .ok (.iconst (-1), 1) := by decide +kernel
theorem d_X_item_29 : decode b_X_item 29 = .ok (.if_icmp .ne 6, 3) := by decide +kernel
theorem d_X_item_32 : decode b_X_item 32 = .ok (.bipush (-11), 2) := by decide +kernel
theorem d_X_item_34 : decode b_X_item 34 = .ok (.ireturn, 1) := by decide +kernel
theorem d_X_item_35 : decode b_X_item 35 = .ok (.aload 4, 2) := by decide +kernel
theorem d_X_item_37 : decode b_X_item 37 = .ok (.getfield 202, 3) := by decide +kernel
theorem d_X_item_40 : decode b_X_item 40 = .ok (.iload_n 2, 1) := by decide +kernel
theorem d_X_item_41 : decode b_X_item 41 = .ok (.if_icmp .eq 6, 3) := by decide +kernel
theorem d_X_item_44 : decode b_X_item 44 = .ok (.bipush (-13), 2) := by decide +kernel
theorem d_X_item_46 : decode b_X_item 46 = .ok (.ireturn, 1) := by decide +kernel
theorem d_X_item_47 : decode b_X_item 47 = .ok (.aload 4, 2) := by decide +kernel
theorem d_X_item_49 : decode b_X_item 49 = .ok (.iload_n 3, 1) := by decide +kernel
theorem d_X_item_50 : decode b_X_item 50 = .ok (.invokevirtual 238, 3) := by decide +kernel
theorem d_X_item_53 : decode b_X_item 53 = .ok (.ifCond .eq 13, 3) := by decide +kernel
theorem d_X_item_56 : decode b_X_item 56 = .ok (.aload 4, 2) := by decide +kernel
theorem d_X_item_58 : decode b_X_item 58 = .ok (.getfield 228, 3) := by decide +kernel
theorem d_X_item_61 : decode b_X_item 61 = .ok (.iload_n 3, 1) := by decide +kernel
theorem d_X_item_62 : decode b_X_item 62 = .ok (.iaload, 1) := by decide +kernel
theorem d_X_item_63 : decode b_X_item 63 = .ok (.goto 5, 3) := by decide +kernel
theorem d_X_item_66 : decode b_X_item 66 = .ok (.bipush (-12), 2) := by decide +kernel
theorem d_X_item_68 : decode b_X_item 68 = .ok (.ireturn, 1) := by decide +kernel
theorem d_X_shelfAt_0 : decode b_X_shelfAt 0 = .ok (.iload_n 1, 1) := by decide +kernel
theorem d_X_shelfAt_1 : decode b_X_shelfAt 1 = .ok (.ifCond .lt 17, 3) := by decide +kernel
theorem d_X_shelfAt_4 : decode b_X_shelfAt 4 = .ok (.iload_n 1, 1) := by decide +kernel
theorem d_X_shelfAt_5 : decode b_X_shelfAt 5 = .ok (.iconst 4, 1) := by decide +kernel
theorem d_X_shelfAt_6 : decode b_X_shelfAt 6 = .ok (.if_icmp .ge 12, 3) := by decide +kernel
theorem d_X_shelfAt_9 : decode b_X_shelfAt 9 = .ok (.aload_n 0, 1) := by decide +kernel
theorem d_X_shelfAt_10 : decode b_X_shelfAt 10 = .ok (.getfield 49, 3) := by decide +kernel
theorem d_X_shelfAt_13 : decode b_X_shelfAt 13 = .ok (.iload_n 1, 1) := by decide +kernel
theorem d_X_shelfAt_14 : decode b_X_shelfAt 14 = .ok (.aaload, 1) := by decide +kernel
theorem d_X_shelfAt_15 : decode b_X_shelfAt 15 = .ok (.goto 4, 3) := by decide +kernel
theorem d_X_shelfAt_18 : decode b_X_shelfAt 18 = .ok (.aconst_null, 1) := by decide +kernel
theorem d_X_shelfAt_19 : decode b_X_shelfAt 19 = .ok (.areturn, 1) := by decide +kernel
theorem d_X_shelf_0 : decode b_X_shelf 0 = .ok (.aload_n 0, 1) := by decide +kernel
theorem d_X_shelf_1 : decode b_X_shelf 1 = .ok (.iload_n 1, 1) := by decide +kernel
theorem d_X_shelf_2 : decode b_X_shelf 2 = .ok (.invokevirtual 244, 3) := by decide +kernel
theorem d_X_shelf_5 : decode b_X_shelf 5 = .ok (.astore 4, 2) := by decide +kernel
theorem d_X_shelf_7 : decode b_X_shelf 7 = .ok (.aload 4, 2) := by decide +kernel
theorem d_X_shelf_9 : decode b_X_shelf 9 = .ok (.ifnonnull 5, 3) := by decide +kernel
theorem d_X_shelf_12 : decode b_X_shelf 12 = .ok (.iconst (-1), 1) := by decide +kernel
theorem d_X_shelf_13 : decode b_X_shelf 13 = .ok (.ireturn, 1) := by decide +kernel
theorem d_X_shelf_14 : decode b_X_shelf 14 = .ok (.iload_n 2, 1) := by decide +kernel
theorem d_X_shelf_15 : decode b_X_shelf 15 = .ok (.iconst 2, 1) := by decide +kernel
theorem d_X_shelf_16 : decode b_X_shelf 16 = .ok (.if_icmp .ne 10, 3) := by decide +kernel
theorem d_X_shelf_19 : decode b_X_shelf 19 = .ok (.aload 4, 2) := by decide +kernel
theorem d_X_shelf_21 : decode b_X_shelf 21 = .ok (.invokevirtual 248, 3) := by decide +kernel
theorem d_X_shelf_24 : decode b_X_shelf 24 = .ok (.iconst 1, 1) := by decide +kernel
theorem d_X_shelf_25 : decode b_X_shelf 25 = .ok (.ireturn, 1) := by decide +kernel
theorem d_X_shelf_26 : decode b_X_shelf 26 = .ok (.iload_n 2, 1) := by decide +kernel
theorem d_X_shelf_27 : decode b_X_shelf 27 = .ok (.ifCond .ne 19, 3) := by decide +kernel
theorem d_X_shelf_30 : decode b_X_shelf 30 = .ok (.aload_n 0, 1) := by decide +kernel
theorem d_X_shelf_31 : decode b_X_shelf 31 = .ok (.iload_n 3, 1) := by decide +kernel
theorem d_X_shelf_32 : decode b_X_shelf 32 = .ok (.invokevirtual 106, 3) := by decide +kernel
theorem d_X_shelf_35 : decode b_X_shelf 35 = .ok (.ifCond .eq 11, 3) := by decide +kernel
theorem d_X_shelf_38 : decode b_X_shelf 38 = .ok (.aload 4, 2) := by decide +kernel
theorem d_X_shelf_40 : decode b_X_shelf 40 = .ok (.iload_n 3, 1) := by decide +kernel
theorem d_X_shelf_41 : decode b_X_shelf 41 = .ok (.invokevirtual 251, 3) := by decide +kernel
theorem d_X_shelf_44 : decode b_X_shelf 44 = .ok (.iconst 1, 1) := by decide +kernel
theorem d_X_shelf_45 : decode b_X_shelf 45 = .ok (.ireturn, 1) := by decide +kernel
theorem d_X_shelf_46 : decode b_X_shelf 46 = .ok (.aload_n 0, 1) := by decide +kernel
theorem d_X_shelf_47 : decode b_X_shelf 47 = .ok (.iload_n 3, 1) := by decide +kernel
theorem d_X_shelf_48 : decode b_X_shelf 48 = .ok (.invokevirtual 198, 3) := by decide +kernel
theorem d_X_shelf_51 : decode b_X_shelf 51 = .ok (.astore 5, 2) := by decide +kernel
theorem d_X_shelf_53 : decode b_X_shelf 53 = .ok (.iload_n 2, 1) := by decide +kernel
theorem d_X_shelf_54 : decode b_X_shelf 54 = .ok (.iconst 1, 1) := by decide +kernel
theorem d_X_shelf_55 : decode b_X_shelf 55 = .ok (.if_icmp .ne 25, 3) := by decide +kernel
theorem d_X_shelf_58 : decode b_X_shelf 58 = .ok (.aload 5, 2) := by decide +kernel
theorem d_X_shelf_60 : decode b_X_shelf 60 = .ok (.ifnull 20, 3) := by decide +kernel
theorem d_X_shelf_63 : decode b_X_shelf 63 = .ok (.aload 4, 2) := by decide +kernel
theorem d_X_shelf_65 : decode b_X_shelf 65 = .ok (.aload 5, 2) := by decide +kernel
theorem d_X_shelf_67 : decode b_X_shelf 67 = .ok (.getfield 202, 3) := by decide +kernel
theorem d_X_shelf_70 : decode b_X_shelf 70 = .ok (.aload 5, 2) := by decide +kernel
theorem d_X_shelf_72 : decode b_X_shelf 72 = .ok (.getfield 227, 3) := by decide +kernel
theorem d_X_shelf_75 : decode b_X_shelf 75 = .ok (.invokevirtual 254, 3) := by decide +kernel
theorem d_X_shelf_78 : decode b_X_shelf 78 = .ok (.iconst 1, 1) := by decide +kernel
theorem d_X_shelf_79 : decode b_X_shelf 79 = .ok (.ireturn, 1) := by decide +kernel
theorem d_X_shelf_80 : decode b_X_shelf 80 = .ok (.iconst (-1), 1) := by decide +kernel
theorem d_X_shelf_81 : decode b_X_shelf 81 = .ok (.ireturn, 1) := by decide +kernel
theorem d_X_bargeOn_0 : decode b_X_bargeOn 0 = .ok (.aload_n 1, 1) := by decide +kernel
theorem d_X_bargeOn_1 : decode b_X_bargeOn 1 = .ok (.ifnull 21, 3) := by decide +kernel
theorem d_X_bargeOn_4 : decode b_X_bargeOn 4 = .ok (.aload_n 1, 1) := by decide +kernel
theorem d_X_bargeOn_5 : decode b_X_bargeOn 5 = .ok (.getfield 257, 3) := by decide +kernel
theorem d_X_bargeOn_8 : decode b_X_bargeOn 8 = .ok (.ifCond .ne 14, 3) := by decide +kernel
theorem d_X_bargeOn_11 : decode b_X_bargeOn 11 = .ok (.aload_n 0, 1) := by decide +kernel
theorem d_X_bargeOn_12 : decode b_X_bargeOn 12 = .ok (.aload_n 1, 1) := by decide +kernel
theorem d_X_bargeOn_13 : decode b_X_bargeOn 13 = .ok (.getfield 289, 3) := by decide +kernel
theorem d_X_bargeOn_16 : decode b_X_bargeOn 16 = .ok (.invokevirtual 106, 3) := by decide +kernel
theorem d_X_bargeOn_19 : decode b_X_bargeOn 19 = .ok (.ifCond .ne 5, 3) := by decide +kernel
theorem d_X_bargeOn_22 : decode b_X_bargeOn 22 = .ok (.iconst (-1), 1) := by decide +kernel
theorem d_X_bargeOn_23 : decode b_X_bargeOn 23 = .ok (.ireturn, 1) := by decide +kernel
theorem d_X_bargeOn_24 : decode b_X_bargeOn 24 = .ok (.aload_n 1, 1) := by decide +kernel
theorem d_X_bargeOn_25 : decode b_X_bargeOn 25 = .ok (.getfield 289, 3) := by decide +kernel
theorem d_X_bargeOn_28 : decode b_X_bargeOn 28 = .ok (.ireturn, 1) := by decide +kernel
theorem d_X_isUnder_0 : decode b_X_isUnder 0 = .ok (.iload_n 0, 1) := by decide +kernel
theorem d_X_isUnder_1 : decode b_X_isUnder 1 = .ok (.istore_n 2, 1) := by decide +kernel
theorem d_X_isUnder_2 : decode b_X_isUnder 2 = .ok (.iconst 0, 1) := by decide +kernel
theorem d_X_isUnder_3 : decode b_X_isUnder 3 = .ok (.istore_n 3, 1) := by decide +kernel
theorem d_X_isUnder_4 : decode b_X_isUnder 4 = .ok (.iload_n 3, 1) := by decide +kernel
theorem d_X_isUnder_5 : decode b_X_isUnder 5 = .ok (.bipush 6, 2) := by decide +kernel
theorem d_X_isUnder_7 : decode b_X_isUnder 7 = .ok (.if_icmp .ge 29, 3) := by decide +kernel
theorem d_X_isUnder_10 : decode b_X_isUnder 10 = .ok (.iload_n 2, 1) := by decide +kernel
theorem d_X_isUnder_11 : decode b_X_isUnder 11 = .ok (.invokestatic 93, 3) := by decide +kernel
theorem d_X_isUnder_14 : decode b_X_isUnder 14 = .ok (.ifCond .eq 22, 3) := by decide +kernel
theorem d_X_isUnder_17 : decode b_X_isUnder 17 = .ok (.iload_n 2, 1) := by decide +kernel
theorem d_X_isUnder_18 : decode b_X_isUnder 18 = .ok (.iload_n 1, 1) := by decide +kernel
theorem d_X_isUnder_19 : decode b_X_isUnder 19 = .ok (.if_icmp .ne 5, 3) := by decide +kernel
theorem d_X_isUnder_22 : decode b_X_isUnder 22 = .ok (.iconst 1, 1) := by decide +kernel
theorem d_X_isUnder_23 : decode b_X_isUnder 23 = .ok (.ireturn, 1) := by decide +kernel
theorem d_X_isUnder_24 : decode b_X_isUnder 24 = .ok (.getstatic 286, 3) := by decide +kernel
theorem d_X_isUnder_27 : decode b_X_isUnder 27 = .ok (.iload_n 2, 1) := by decide +kernel
theorem d_X_isUnder_28 : decode b_X_isUnder 28 = .ok (.iaload, 1) := by decide +kernel
theorem d_X_isUnder_29 : decode b_X_isUnder 29 = .ok (.istore_n 2, 1) := by decide +kernel
theorem d_X_isUnder_30 : decode b_X_isUnder 30 = .ok (.iinc 3 1, 3) := by decide +kernel
theorem d_X_isUnder_33 : decode b_X_isUnder 33 = .ok (.goto (-29), 3) := by decide +kernel
theorem d_X_isUnder_36 : decode b_X_isUnder 36 = .ok (.iconst 0, 1) := by decide +kernel
theorem d_X_isUnder_37 : decode b_X_isUnder 37 = .ok (.ireturn, 1) := by decide +kernel
theorem d_X_taken_0 : decode b_X_taken 0 = .ok (.aload_n 0, 1) := by decide +kernel
theorem d_X_taken_1 : decode b_X_taken 1 = .ok (.iload_n 1, 1) := by decide +kernel
theorem d_X_taken_2 : decode b_X_taken 2 = .ok (.invokevirtual 244, 3) := by decide +kernel
theorem d_X_taken_5 : decode b_X_taken 5 = .ok (.astore_n 3, 1) := by decide +kernel
theorem d_X_taken_6 : decode b_X_taken 6 = .ok (.iload_n 2, 1) := by decide +kernel
theorem d_X_taken_7 : decode b_X_taken 7 = .ok (.bipush 10, 2) := by decide +kernel
theorem d_X_taken_9 : decode b_X_taken 9 = .ok (.if_icmp .lt 13, 3) := by decide +kernel
theorem d_X_taken_12 : decode b_X_taken 12 = .ok (.iload_n 2, 1) := by decide +kernel
theorem d_X_taken_13 : decode b_X_taken 13 = .ok (.bipush 13, 2) := by decide +kernel
theorem d_X_taken_15 : decode b_X_taken 15 = .ok (.if_icmp .gt 7, 3) := by decide +kernel
theorem d_X_taken_18 : decode b_X_taken 18 = .ok (.iconst 1, 1) := by decide +kernel
theorem d_X_taken_19 : decode b_X_taken 19 = .ok (.goto 4, 3) := by decide +kernel
theorem d_X_taken_22 : decode b_X_taken 22 = .ok (.iconst 0, 1) := by decide +kernel
theorem d_X_taken_23 : decode b_X_taken 23 = .ok (.istore 4, 2) := by decide +kernel
theorem d_X_taken_25 : decode b_X_taken 25 = .ok (.aload_n 3, 1) := by decide +kernel
theorem d_X_taken_26 : decode b_X_taken 26 = .ok (.ifnull 15, 3) := by decide +kernel
theorem d_X_taken_29 : decode b_X_taken 29 = .ok (.iload_n 2, 1) := by decide +kernel
theorem d_X_taken_30 : decode b_X_taken 30 = .ok (.invokestatic 93, 3) := by decide +kernel
theorem d_X_taken_33 : decode b_X_taken 33 = .ok (.ifCond .ne 10, 3) := by decide +kernel
theorem d_X_taken_36 : decode b_X_taken 36 = .ok (.iload 4, 2) := by decide +kernel
theorem d_X_taken_38 : decode b_X_taken 38 = .ok (.ifCond .ne 5, 3) := by decide +kernel
theorem d_X_taken_41 : decode b_X_taken 41 = .ok (.iconst (-1), 1) := by decide +kernel
theorem d_X_taken_42 : decode b_X_taken 42 = .ok (.ireturn, 1) := by decide +kernel
theorem d_X_taken_43 : decode b_X_taken 43 = .ok (.aload_n 3, 1) := by decide +kernel
theorem d_X_taken_44 : decode b_X_taken 44 = .ok (.getfield 257, 3) := by decide +kernel
theorem d_X_taken_47 : decode b_X_taken 47 = .ok (.iconst 1, 1) := by decide +kernel
theorem d_X_taken_48 : decode b_X_taken 48 = .ok (.if_icmp .ne 29, 3) := by decide +kernel
theorem d_X_taken_51 : decode b_X_taken 51 = .ok (.iload 4, 2) := by decide +kernel
theorem d_X_taken_53 : decode b_X_taken 53 = .ok (.ifCond .eq 21, 3) := by decide +kernel
theorem d_X_taken_56 : decode b_X_taken 56 = .ok (.aload_n 3, 1) := by decide +kernel
theorem d_X_taken_57 : decode b_X_taken 57 = .ok (.getfield 260, 3) := by decide +kernel
theorem d_X_taken_60 : decode b_X_taken 60 = .ok (.iload_n 2, 1) := by decide +kernel
theorem d_X_taken_61 : decode b_X_taken 61 = .ok (.bipush 10, 2) := by decide +kernel
theorem d_X_taken_63 : decode b_X_taken 63 = .ok (.isub, 1) := by decide +kernel
theorem d_X_taken_64 : decode b_X_taken 64 = .ok (.if_icmp .ne 10, 3) := by decide +kernel
theorem d_X_taken_67 : decode b_X_taken 67 = .ok (.aload_n 3, 1) := by decide +kernel
theorem d_X_taken_68 : decode b_X_taken 68 = .ok (.getfield 263, 3) := by decide +kernel
theorem d_X_taken_71 : decode b_X_taken 71 = .ok (.goto 5, 3) := by decide +kernel
theorem d_X_taken_74 : decode b_X_taken 74 = .ok (.bipush (-13), 2) := by decide +kernel
theorem d_X_taken_76 : decode b_X_taken 76 = .ok (.ireturn, 1) := by decide +kernel
theorem d_X_taken_77 : decode b_X_taken 77 = .ok (.aload_n 0, 1) := by decide +kernel
theorem d_X_taken_78 : decode b_X_taken 78 = .ok (.aload_n 3, 1) := by decide +kernel
theorem d_X_taken_79 : decode b_X_taken 79 = .ok (.invokevirtual 266, 3) := by decide +kernel
theorem d_X_taken_82 : decode b_X_taken 82 = .ok (.istore 5, 2) := by decide +kernel
theorem d_X_taken_84 : decode b_X_taken 84 = .ok (.iload 5, 2) := by decide +kernel
theorem d_X_taken_86 : decode b_X_taken 86 = .ok (.ifCond .ge 6, 3) := by decide +kernel
theorem d_X_taken_89 : decode b_X_taken 89 = .ok (.bipush (-11), 2) := by decide +kernel
theorem d_X_taken_91 : decode b_X_taken 91 = .ok (.ireturn, 1) := by decide +kernel
theorem d_X_taken_92 : decode b_X_taken 92 = .ok (.iload 4, 2) := by decide +kernel
theorem d_X_taken_94 : decode b_X_taken 94 = .ok (.ifCond .ne 25, 3) := by decide +kernel
theorem d_X_taken_97 : decode b_X_taken 97 = .ok (.aload_n 0, 1) := by decide +kernel
theorem d_X_taken_98 : decode b_X_taken 98 = .ok (.getfield 10, 3) := by decide +kernel
theorem d_X_taken_101 : decode b_X_taken 101 = .ok (.getfield 109, 3) := by decide +kernel
theorem d_X_taken_104 : decode b_X_taken 104 = .ok (.iload 5, 2) := by decide +kernel
theorem d_X_taken_106 : decode b_X_taken 106 = .ok (.iaload, 1) := by decide +kernel
theorem d_X_taken_107 : decode b_X_taken 107 = .ok (.iload_n 2, 1) := by decide +kernel
theorem d_X_taken_108 : decode b_X_taken 108 = .ok (.invokestatic 270, 3) := by decide +kernel
theorem d_X_taken_111 : decode b_X_taken 111 = .ok (.ifCond .eq 8, 3) := by decide +kernel
theorem d_X_taken_114 : decode b_X_taken 114 = .ok (.iload 5, 2) := by decide +kernel
theorem d_X_taken_116 : decode b_X_taken 116 = .ok (.goto 5, 3) := by decide +kernel
theorem d_X_taken_119 : decode b_X_taken 119 = .ok (.bipush (-13), 2) := by decide +kernel
theorem d_X_taken_121 : decode b_X_taken 121 = .ok (.ireturn, 1) := by decide +kernel
theorem d_X_act_0 : decode b_X_act 0 = .ok (.aload_n 0, 1) := by decide +kernel
theorem d_X_act_1 : decode b_X_act 1 = .ok (.getfield 56, 3) := by decide +kernel
theorem d_X_act_4 : decode b_X_act 4 = .ok (.iconst 0, 1) := by decide +kernel
theorem d_X_act_5 : decode b_X_act 5 = .ok (.putfield 273, 3) := by decide +kernel
theorem d_X_act_8 : decode b_X_act 8 = .ok (.aload_n 0, 1) := by decide +kernel
theorem d_X_act_9 : decode b_X_act 9 = .ok (.aload_n 0, 1) := by decide +kernel
theorem d_X_act_10 : decode b_X_act 10 = .ok (.iload_n 1, 1) := by decide +kernel
theorem d_X_act_11 : decode b_X_act 11 = .ok (.invokevirtual 244, 3) := by decide +kernel
theorem d_X_act_14 : decode b_X_act 14 = .ok (.invokevirtual 266, 3) := by decide +kernel
theorem d_X_act_17 : decode b_X_act 17 = .ok (.istore 4, 2) := by decide +kernel
theorem d_X_act_19 : decode b_X_act 19 = .ok (.iload 4, 2) := by decide +kernel
theorem d_X_act_21 : decode b_X_act 21 = .ok (.ifCond .lt 12, 3) := by decide +kernel
theorem d_X_act_24 : decode b_X_act 24 = .ok (.iload_n 2, 1) := by decide +kernel
theorem d_X_act_25 : decode b_X_act 25 = .ok (.ifCond .lt 8, 3) := by decide +kernel
theorem d_X_act_28 : decode b_X_act 28 = .ok (.iload_n 2, 1) := by decide +kernel
theorem d_X_act_29 : decode b_X_act 29 = .ok (.iconst 4, 1) := by decide +kernel
theorem d_X_act_30 : decode b_X_act 30 = .ok (.if_icmp .lt 5, 3) := by decide +kernel
theorem d_X_act_33 : decode b_X_act 33 = .ok (.iconst 0, 1) := by decide +kernel
theorem d_X_act_34 : decode b_X_act 34 = .ok (.ireturn, 1) := by decide +kernel
theorem d_X_act_35 : decode b_X_act 35 = .ok (.aload_n 0, 1) := by decide +kernel
theorem d_X_act_36 : decode b_X_act 36 = .ok (.getfield 56, 3) := by decide +kernel
theorem d_X_act_39 : decode b_X_act 39 = .ok (.iload_n 2, 1) := by decide +kernel
theorem d_X_act_40 : decode b_X_act 40 = .ok (.aload_n 0, 1) := by decide +kernel
theorem d_X_act_41 : decode b_X_act 41 = .ok (.getfield 10, 3) := by decide +kernel
theorem d_X_act_44 : decode b_X_act 44 = .ok (.getfield 109, 3) := by decide +kernel
theorem d_X_act_47 : decode b_X_act 47 = .ok (.iload 4, 2) := by decide +kernel
theorem d_X_act_49 : decode b_X_act 49 = .ok (.iaload, 1) := by decide +kernel
theorem d_X_act_50 : decode b_X_act 50 = .ok (.iload 4, 2) := by decide +kernel
theorem d_X_act_52 : decode b_X_act 52 = .ok (.aload_n 0, 1) := by decide +kernel
theorem d_X_act_53 : decode b_X_act 53 = .ok (.getfield 10, 3) := by decide +kernel
theorem d_X_act_56 : decode b_X_act 56 = .ok (.getfield 118, 3) := by decide +kernel
theorem d_X_act_59 : decode b_X_act 59 = .ok (.iload 4, 2) := by decide +kernel
theorem d_X_act_61 : decode b_X_act 61 = .ok (.iaload, 1) := by decide +kernel
theorem d_X_act_62 : decode b_X_act 62 = .ok (.iload_n 3, 1) := by decide +kernel
theorem d_X_act_63 : decode b_X_act 63 = .ok (.invokevirtual 276, 3) := by decide +kernel
theorem d_X_act_66 : decode b_X_act 66 = .ok (.ireturn, 1) := by decide +kernel
theorem d_X_trace_0 : decode b_X_trace 0 = .ok (.iload_n 1, 1) := by decide +kernel
theorem d_X_trace_1 : decode b_X_trace 1 = .ok (.ifCond .lt 32, 3) := by decide +kernel
theorem d_X_trace_4 : decode b_X_trace 4 = .ok (.iload_n 1, 1) := by decide +kernel
theorem d_X_trace_5 : decode b_X_trace 5 = .ok (.aload_n 0, 1) := by decide +kernel
theorem d_X_trace_6 : decode b_X_trace 6 = .ok (.getfield 56, 3) := by decide +kernel
theorem d_X_trace_9 : decode b_X_trace 9 = .ok (.getfield 273, 3) := by decide +kernel
theorem d_X_trace_12 : decode b_X_trace 12 = .ok (.if_icmp .ge 21, 3) := by decide +kernel
theorem d_X_trace_15 : decode b_X_trace 15 = .ok (.iload_n 1, 1) := by decide +kernel
theorem d_X_trace_16 : decode b_X_trace 16 = .ok (.bipush 30, 2) := by decide +kernel
theorem d_X_trace_18 : decode b_X_trace 18 = .ok (.if_icmp .ge 15, 3) := by decide +kernel
theorem d_X_trace_21 : decode b_X_trace 21 = .ok (.aload_n 0, 1) := by decide +kernel
theorem d_X_trace_22 : decode b_X_trace 22 = .ok (.getfield 56, 3) := by decide +kernel
theorem d_X_trace_25 : decode b_X_trace 25 = .ok (.getfield 280, 3) := by decide +kernel
theorem d_X_trace_28 : decode b_X_trace 28 = .ok (.iload_n 1, 1) := by decide +kernel
theorem d_X_trace_29 : decode b_X_trace 29 = .ok (.iaload, 1) := by decide +kernel
theorem d_X_trace_30 : decode b_X_trace 30 = .ok (.goto 5, 3) := by decide +kernel
theorem d_X_trace_33 : decode b_X_trace 33 = .ok (.bipush (-3), 2) := by decide +kernel
theorem d_X_trace_35 : decode b_X_trace 35 = .ok (.ireturn, 1) := by decide +kernel
theorem d_X_many_0 : decode b_X_many 0 = .ok (.iload_n 1, 1) := by decide +kernel
theorem d_X_many_1 : decode b_X_many 1 = .ok (.tableswitch 102 0 6 #[43, 51, 62, 73, 81, 86, 94], 43) := by decide +kernel
theorem d_X_many_44 : decode b_X_many 44 = .ok (.aload_n 0, 1) := by decide +kernel
theorem d_X_many_45 : decode b_X_many 45 = .ok (.getfield 10, 3) := by decide +kernel
theorem d_X_many_48 : decode b_X_many 48 = .ok (.getfield 80, 3) := by decide +kernel
theorem d_X_many_51 : decode b_X_many 51 = .ok (.ireturn, 1) := by decide +kernel
theorem d_X_many_52 : decode b_X_many 52 = .ok (.aload_n 0, 1) := by decide +kernel
theorem d_X_many_53 : decode b_X_many 53 = .ok (.getfield 10, 3) := by decide +kernel
theorem d_X_many_56 : decode b_X_many 56 = .ok (.invokevirtual 171, 3) := by decide +kernel
theorem d_X_many_59 : decode b_X_many 59 = .ok (.invokestatic 193, 3) := by decide +kernel
theorem d_X_many_62 : decode b_X_many 62 = .ok (.ireturn, 1) := by decide +kernel
theorem d_X_many_63 : decode b_X_many 63 = .ok (.aload_n 0, 1) := by decide +kernel
theorem d_X_many_64 : decode b_X_many 64 = .ok (.getfield 10, 3) := by decide +kernel
theorem d_X_many_67 : decode b_X_many 67 = .ok (.invokevirtual 174, 3) := by decide +kernel
theorem d_X_many_70 : decode b_X_many 70 = .ok (.invokestatic 193, 3) := by decide +kernel
theorem d_X_many_73 : decode b_X_many 73 = .ok (.ireturn, 1) := by decide +kernel
theorem d_X_many_74 : decode b_X_many 74 = .ok (.aload_n 0, 1) := by decide +kernel
theorem d_X_many_75 : decode b_X_many 75 = .ok (.getfield 10, 3) := by decide +kernel
theorem d_X_many_78 : decode b_X_many 78 = .ok (.invokevirtual 283, 3) := by decide +kernel
theorem d_X_many_81 : decode b_X_many 81 = .ok (.ireturn, 1) := by decide +kernel
theorem d_X_many_82 : decode b_X_many 82 = .ok (.aload_n 0, 1) := by decide +kernel
theorem d_X_many_83 : decode b_X_many 83 = .ok (.getfield 37, 3) := by decide +kernel
theorem d_X_many_86 : decode b_X_many 86 = .ok (.ireturn, 1) := by decide +kernel
theorem d_X_many_87 : decode b_X_many 87 = .ok (.aload_n 0, 1) := by decide +kernel
theorem d_X_many_88 : decode b_X_many 88 = .ok (.getfield 29, 3) := by decide +kernel
theorem d_X_many_91 : decode b_X_many 91 = .ok (.getfield 62, 3) := by decide +kernel
theorem d_X_many_94 : decode b_X_many 94 = .ok (.ireturn, 1) := by decide +kernel
theorem d_X_many_95 : decode b_X_many 95 = .ok (.aload_n 0, 1) := by decide +kernel
theorem d_X_many_96 : decode b_X_many 96 = .ok (.getfield 56, 3) := by decide +kernel
theorem d_X_many_99 : decode b_X_many 99 = .ok (.getfield 273, 3) := by decide +kernel
theorem d_X_many_102 : decode b_X_many 102 = .ok (.ireturn, 1) := by decide +kernel
theorem d_X_many_103 : decode b_X_many 103 = .ok (.iconst (-1), 1) := by decide +kernel
theorem d_X_many_104 : decode b_X_many 104 = .ok (.ireturn, 1) := by decide +kernel
theorem d_X_keep_0 : decode b_X_keep 0 = .ok (.aload_n 0, 1) := by decide +kernel
theorem d_X_keep_1 : decode b_X_keep 1 = .ok (.getfield 19, 3) := by decide +kernel
theorem d_X_keep_4 : decode b_X_keep 4 = .ok (.aload_n 0, 1) := by decide +kernel
theorem d_X_keep_5 : decode b_X_keep 5 = .ok (.getfield 10, 3) := by decide +kernel
theorem d_X_keep_8 : decode b_X_keep 8 = .ok (.invokevirtual 69, 3) := by decide +kernel
theorem d_X_keep_11 : decode b_X_keep 11 = .ok (.aload_n 0, 1) := by decide +kernel
theorem d_X_keep_12 : decode b_X_keep 12 = .ok (.iconst 1, 1) := by decide +kernel
theorem d_X_keep_13 : decode b_X_keep 13 = .ok (.putfield 22, 3) := by decide +kernel
theorem d_X_keep_16 : decode b_X_keep 16 = .ok (.iconst 1, 1) := by decide +kernel
theorem d_X_keep_17 : decode b_X_keep 17 = .ok (.ireturn, 1) := by decide +kernel
theorem d_X_again_0 : decode b_X_again 0 = .ok (.aload_n 0, 1) := by decide +kernel
theorem d_X_again_1 : decode b_X_again 1 = .ok (.getfield 22, 3) := by decide +kernel
theorem d_X_again_4 : decode b_X_again 4 = .ok (.ifCond .ne 6, 3) := by decide +kernel
theorem d_X_again_7 : decode b_X_again 7 = .ok (.bipush (-3), 2) := by decide +kernel
theorem d_X_again_9 : decode b_X_again 9 = .ok (.ireturn, 1) := by decide +kernel
theorem d_X_again_10 : decode b_X_again 10 = .ok (.aload_n 0, 1) := by decide +kernel
theorem d_X_again_11 : decode b_X_again 11 = .ok (.getfield 10, 3) := by decide +kernel
theorem d_X_again_14 : decode b_X_again 14 = .ok (.aload_n 0, 1) := by decide +kernel
theorem d_X_again_15 : decode b_X_again 15 = .ok (.getfield 19, 3) := by decide +kernel
theorem d_X_again_18 : decode b_X_again 18 = .ok (.invokevirtual 69, 3) := by decide +kernel
theorem d_X_again_21 : decode b_X_again 21 = .ok (.aload_n 0, 1) := by decide +kernel
theorem d_X_again_22 : decode b_X_again 22 = .ok (.getfield 10, 3) := by decide +kernel
theorem d_X_again_25 : decode b_X_again 25 = .ok (.getfield 80, 3) := by decide +kernel
theorem d_X_again_28 : decode b_X_again 28 = .ok (.ireturn, 1) := by decide +kernel
