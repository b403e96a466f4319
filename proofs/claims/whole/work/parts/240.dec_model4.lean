theorem d_M_shelf_0 : decode b_M_shelf 0 = .ok (.iload_n 2, 1) := by decide +kernel
theorem d_M_shelf_1 : decode b_M_shelf 1 = .ok (.ifCond .ne 11, 3) := by decide +kernel
theorem d_M_shelf_4 : decode b_M_shelf 4 = .ok (.aload_n 0, 1) := by decide +kernel
theorem d_M_shelf_5 : decode b_M_shelf 5 = .ok (.iload_n 3, 1) := by decide +kernel
theorem d_M_shelf_6 : decode b_M_shelf 6 = .ok (.invokevirtual 118, 3) := by decide +kernel
theorem d_M_shelf_9 : decode b_M_shelf 9 = .ok (.goto 25, 3) := by decide +kernel
theorem d_M_shelf_12 : decode b_M_shelf 12 = .ok (.iload_n 2, 1) := by decide +kernel
theorem d_M_shelf_13 : decode b_M_shelf 13 = .ok (.iconst 1, 1) := by decide +kernel
theorem d_M_shelf_14 : decode b_M_shelf 14 = .ok (.if_icmp .ne 10, 3) := by decide +kernel
theorem d_M_shelf_17 : decode b_M_shelf 17 = .ok (.iload_n 3, 1) := by decide +kernel
theorem d_M_shelf_18 : decode b_M_shelf 18 = .ok (.invokestatic 178, 3) := by decide +kernel
theorem d_M_shelf_21 : decode b_M_shelf 21 = .ok (.goto 13, 3) := by decide +kernel
theorem d_M_shelf_24 : decode b_M_shelf 24 = .ok (.iload_n 2, 1) := by decide +kernel
theorem d_M_shelf_25 : decode b_M_shelf 25 = .ok (.iconst 2, 1) := by decide +kernel
theorem d_M_shelf_26 : decode b_M_shelf 26 = .ok (.if_icmp .ne 7, 3) := by decide +kernel
theorem d_M_shelf_29 : decode b_M_shelf 29 = .ok (.iconst 1, 1) := by decide +kernel
theorem d_M_shelf_30 : decode b_M_shelf 30 = .ok (.goto 4, 3) := by decide +kernel
theorem d_M_shelf_33 : decode b_M_shelf 33 = .ok (.iconst 0, 1) := by decide +kernel
theorem d_M_shelf_34 : decode b_M_shelf 34 = .ok (.istore 4, 2) := by decide +kernel
theorem d_M_shelf_36 : decode b_M_shelf 36 = .ok (.iload_n 1, 1) := by decide +kernel
theorem d_M_shelf_37 : decode b_M_shelf 37 = .ok (.i2l, 1) := by decide +kernel
theorem d_M_shelf_38 : decode b_M_shelf 38 = .ok (.lconst 0, 1) := by decide +kernel
theorem d_M_shelf_39 : decode b_M_shelf 39 = .ok (.ldc2_w 98, 3) := by decide +kernel
theorem d_M_shelf_42 : decode b_M_shelf 42 = .ok (.invokestatic 58, 3) := by decide +kernel
theorem d_M_shelf_45 : decode b_M_shelf 45 = .ok (.ifCond .eq 8, 3) := by decide +kernel
theorem d_M_shelf_48 : decode b_M_shelf 48 = .ok (.iload 4, 2) := by decide +kernel
theorem d_M_shelf_50 : decode b_M_shelf 50 = .ok (.ifCond .ne 5, 3) := by decide +kernel
theorem d_M_shelf_53 : decode b_M_shelf 53 = .ok (.iconst (-1), 1) := by decide +kernel
theorem d_M_shelf_54 : decode b_M_shelf 54 = .ok (.ireturn, 1) := by decide +kernel
theorem d_M_shelf_55 : decode b_M_shelf 55 = .ok (.iload_n 2, 1) := by decide +kernel
theorem d_M_shelf_56 : decode b_M_shelf 56 = .ok (.iconst 1, 1) := by decide +kernel
theorem d_M_shelf_57 : decode b_M_shelf 57 = .ok (.if_icmp .ne 16, 3) := by decide +kernel
theorem d_M_shelf_60 : decode b_M_shelf 60 = .ok (.aload_n 0, 1) := by decide +kernel
theorem d_M_shelf_61 : decode b_M_shelf 61 = .ok (.getfield 33, 3) := by decide +kernel
theorem d_M_shelf_64 : decode b_M_shelf 64 = .ok (.iload_n 3, 1) := by decide +kernel
theorem d_M_shelf_65 : decode b_M_shelf 65 = .ok (.iaload, 1) := by decide +kernel
theorem d_M_shelf_66 : decode b_M_shelf 66 = .ok (.ifCond .le 7, 3) := by decide +kernel
theorem d_M_shelf_69 : decode b_M_shelf 69 = .ok (.iconst 1, 1) := by decide +kernel
theorem d_M_shelf_70 : decode b_M_shelf 70 = .ok (.goto 4, 3) := by decide +kernel
theorem d_M_shelf_73 : decode b_M_shelf 73 = .ok (.iconst 0, 1) := by decide +kernel
theorem d_M_shelf_74 : decode b_M_shelf 74 = .ok (.istore 5, 2) := by decide +kernel
theorem d_M_shelf_76 : decode b_M_shelf 76 = .ok (.aload_n 0, 1) := by decide +kernel
theorem d_M_shelf_77 : decode b_M_shelf 77 = .ok (.getfield 43, 3) := by decide +kernel
theorem d_M_shelf_80 : decode b_M_shelf 80 = .ok (.iload_n 1, 1) := by decide +kernel
theorem d_M_shelf_81 : decode b_M_shelf 81 = .ok (.iload_n 2, 1) := by decide +kernel
theorem d_M_shelf_82 : decode b_M_shelf 82 = .ok (.ifCond .ne 7, 3) := by decide +kernel
theorem d_M_shelf_85 : decode b_M_shelf 85 = .ok (.iconst 1, 1) := by decide +kernel
theorem d_M_shelf_86 : decode b_M_shelf 86 = .ok (.goto 13, 3) := by decide +kernel
theorem d_M_shelf_89 : decode b_M_shelf 89 = .ok (.iload 5, 2) := by decide +kernel
theorem d_M_shelf_91 : decode b_M_shelf 91 = .ok (.ifCond .eq 7, 3) := by decide +kernel
theorem d_M_shelf_94 : decode b_M_shelf 94 = .ok (.iconst 2, 1) := by decide +kernel
theorem d_M_shelf_95 : decode b_M_shelf 95 = .ok (.goto 4, 3) := by decide +kernel
theorem d_M_shelf_98 : decode b_M_shelf 98 = .ok (.iconst 0, 1) := by decide +kernel
theorem d_M_shelf_99 : decode b_M_shelf 99 = .ok (.iastore, 1) := by decide +kernel
theorem d_M_shelf_100 : decode b_M_shelf 100 = .ok (.aload_n 0, 1) := by decide +kernel
theorem d_M_shelf_101 : decode b_M_shelf 101 = .ok (.getfield 46, 3) := by decide +kernel
theorem d_M_shelf_104 : decode b_M_shelf 104 = .ok (.iload_n 1, 1) := by decide +kernel
theorem d_M_shelf_105 : decode b_M_shelf 105 = .ok (.iload_n 2, 1) := by decide +kernel
theorem d_M_shelf_106 : decode b_M_shelf 106 = .ok (.ifCond .ne 7, 3) := by decide +kernel
theorem d_M_shelf_109 : decode b_M_shelf 109 = .ok (.iload_n 3, 1) := by decide +kernel
theorem d_M_shelf_110 : decode b_M_shelf 110 = .ok (.goto 20, 3) := by decide +kernel
theorem d_M_shelf_113 : decode b_M_shelf 113 = .ok (.iload 5, 2) := by decide +kernel
theorem d_M_shelf_115 : decode b_M_shelf 115 = .ok (.ifCond .eq 14, 3) := by decide +kernel
theorem d_M_shelf_118 : decode b_M_shelf 118 = .ok (.aload_n 0, 1) := by decide +kernel
theorem d_M_shelf_119 : decode b_M_shelf 119 = .ok (.getfield 33, 3) := by decide +kernel
theorem d_M_shelf_122 : decode b_M_shelf 122 = .ok (.iload_n 3, 1) := by decide +kernel
theorem d_M_shelf_123 : decode b_M_shelf 123 = .ok (.iaload, 1) := by decide +kernel
theorem d_M_shelf_124 : decode b_M_shelf 124 = .ok (.iconst 1, 1) := by decide +kernel
theorem d_M_shelf_125 : decode b_M_shelf 125 = .ok (.isub, 1) := by decide +kernel
theorem d_M_shelf_126 : decode b_M_shelf 126 = .ok (.goto 4, 3) := by decide +kernel
theorem d_M_shelf_129 : decode b_M_shelf 129 = .ok (.iconst 0, 1) := by decide +kernel
theorem d_M_shelf_130 : decode b_M_shelf 130 = .ok (.iastore, 1) := by decide +kernel
theorem d_M_shelf_131 : decode b_M_shelf 131 = .ok (.aload_n 0, 1) := by decide +kernel
theorem d_M_shelf_132 : decode b_M_shelf 132 = .ok (.getfield 49, 3) := by decide +kernel
theorem d_M_shelf_135 : decode b_M_shelf 135 = .ok (.iload_n 1, 1) := by decide +kernel
theorem d_M_shelf_136 : decode b_M_shelf 136 = .ok (.iload 5, 2) := by decide +kernel
theorem d_M_shelf_138 : decode b_M_shelf 138 = .ok (.ifCond .eq 12, 3) := by decide +kernel
theorem d_M_shelf_141 : decode b_M_shelf 141 = .ok (.aload_n 0, 1) := by decide +kernel
theorem d_M_shelf_142 : decode b_M_shelf 142 = .ok (.getfield 36, 3) := by decide +kernel
theorem d_M_shelf_145 : decode b_M_shelf 145 = .ok (.iload_n 3, 1) := by decide +kernel
theorem d_M_shelf_146 : decode b_M_shelf 146 = .ok (.iaload, 1) := by decide +kernel
theorem d_M_shelf_147 : decode b_M_shelf 147 = .ok (.goto 4, 3) := by decide +kernel
theorem d_M_shelf_150 : decode b_M_shelf 150 = .ok (.iconst 0, 1) := by decide +kernel
theorem d_M_shelf_151 : decode b_M_shelf 151 = .ok (.iastore, 1) := by decide +kernel
theorem d_M_shelf_152 : decode b_M_shelf 152 = .ok (.iconst 1, 1) := by decide +kernel
theorem d_M_shelf_153 : decode b_M_shelf 153 = .ok (.ireturn, 1) := by decide +kernel
theorem d_M_holdsNothing_0 : decode b_M_holdsNothing 0 = .ok (.aload_n 0, 1) := by decide +kernel
theorem d_M_holdsNothing_1 : decode b_M_holdsNothing 1 = .ok (.getfield 43, 3) := by decide +kernel
theorem d_M_holdsNothing_4 : decode b_M_holdsNothing 4 = .ok (.iload_n 1, 1) := by decide +kernel
theorem d_M_holdsNothing_5 : decode b_M_holdsNothing 5 = .ok (.iaload, 1) := by decide +kernel
theorem d_M_holdsNothing_6 : decode b_M_holdsNothing 6 = .ok (.ifCond .eq 26, 3) := by decide +kernel
theorem d_M_holdsNothing_9 : decode b_M_holdsNothing 9 = .ok (.aload_n 0, 1) := by decide +kernel
theorem d_M_holdsNothing_10 : decode b_M_holdsNothing 10 = .ok (.getfield 43, 3) := by decide +kernel
theorem d_M_holdsNothing_13 : decode b_M_holdsNothing 13 = .ok (.iload_n 1, 1) := by decide +kernel
theorem d_M_holdsNothing_14 : decode b_M_holdsNothing 14 = .ok (.iaload, 1) := by decide +kernel
theorem d_M_holdsNothing_15 : decode b_M_holdsNothing 15 = .ok (.iconst 1, 1) := by decide +kernel
theorem d_M_holdsNothing_16 : decode b_M_holdsNothing 16 = .ok (.if_icmp .ne 20, 3) := by decide +kernel
theorem d_M_holdsNothing_19 : decode b_M_holdsNothing 19 = .ok (.aload_n 0, 1) := by decide +kernel
theorem d_M_holdsNothing_20 : decode b_M_holdsNothing 20 = .ok (.aload_n 0, 1) := by decide +kernel
theorem d_M_holdsNothing_21 : decode b_M_holdsNothing 21 = .ok (.getfield 46, 3) := by decide +kernel
theorem d_M_holdsNothing_24 : decode b_M_holdsNothing 24 = .ok (.iload_n 1, 1) := by decide +kernel
theorem d_M_holdsNothing_25 : decode b_M_holdsNothing 25 = .ok (.iaload, 1) := by decide +kernel
theorem d_M_holdsNothing_26 : decode b_M_holdsNothing 26 = .ok (.invokevirtual 118, 3) := by decide +kernel
theorem d_M_holdsNothing_29 : decode b_M_holdsNothing 29 = .ok (.ifCond .ne 7, 3) := by decide +kernel
theorem d_M_holdsNothing_32 : decode b_M_holdsNothing 32 = .ok (.iconst 1, 1) := by decide +kernel
theorem d_M_holdsNothing_33 : decode b_M_holdsNothing 33 = .ok (.goto 4, 3) := by decide +kernel
theorem d_M_holdsNothing_36 : decode b_M_holdsNothing 36 = .ok (.iconst 0, 1) := by decide +kernel
theorem d_M_holdsNothing_37 : decode b_M_holdsNothing 37 = .ok (.ireturn, 1) := by decide +kernel
theorem d_M_above_0 : decode b_M_above 0 = .ok (.iload_n 0, 1) := by decide +kernel
theorem d_M_above_1 : decode b_M_above 1 = .ok (.iconst 3, 1) := by decide +kernel
theorem d_M_above_2 : decode b_M_above 2 = .ok (.if_icmp .ne 7, 3) := by decide +kernel
theorem d_M_above_5 : decode b_M_above 5 = .ok (.iconst 1, 1) := by decide +kernel
theorem d_M_above_6 : decode b_M_above 6 = .ok (.goto 13, 3) := by decide +kernel
theorem d_M_above_9 : decode b_M_above 9 = .ok (.iload_n 0, 1) := by decide +kernel
theorem d_M_above_10 : decode b_M_above 10 = .ok (.iconst 4, 1) := by decide +kernel
theorem d_M_above_11 : decode b_M_above 11 = .ok (.if_icmp .ne 7, 3) := by decide +kernel
theorem d_M_above_14 : decode b_M_above 14 = .ok (.iconst 2, 1) := by decide +kernel
theorem d_M_above_15 : decode b_M_above 15 = .ok (.goto 4, 3) := by decide +kernel
theorem d_M_above_18 : decode b_M_above 18 = .ok (.iconst 0, 1) := by decide +kernel
theorem d_M_above_19 : decode b_M_above 19 = .ok (.ireturn, 1) := by decide +kernel
theorem d_M_taken_0 : decode b_M_taken 0 = .ok (.iload_n 1, 1) := by decide +kernel
theorem d_M_taken_1 : decode b_M_taken 1 = .ok (.i2l, 1) := by decide +kernel
theorem d_M_taken_2 : decode b_M_taken 2 = .ok (.lconst 0, 1) := by decide +kernel
theorem d_M_taken_3 : decode b_M_taken 3 = .ok (.ldc2_w 98, 3) := by decide +kernel
theorem d_M_taken_6 : decode b_M_taken 6 = .ok (.invokestatic 58, 3) := by decide +kernel
theorem d_M_taken_9 : decode b_M_taken 9 = .ok (.ifCond .eq 29, 3) := by decide +kernel
theorem d_M_taken_12 : decode b_M_taken 12 = .ok (.iload_n 2, 1) := by decide +kernel
theorem d_M_taken_13 : decode b_M_taken 13 = .ok (.i2l, 1) := by decide +kernel
theorem d_M_taken_14 : decode b_M_taken 14 = .ok (.lconst 0, 1) := by decide +kernel
theorem d_M_taken_15 : decode b_M_taken 15 = .ok (.ldc2_w 109, 3) := by decide +kernel
theorem d_M_taken_18 : decode b_M_taken 18 = .ok (.invokestatic 58, 3) := by decide +kernel
theorem d_M_taken_21 : decode b_M_taken 21 = .ok (.ifCond .ne 19, 3) := by decide +kernel
theorem d_M_taken_24 : decode b_M_taken 24 = .ok (.iload_n 2, 1) := by decide +kernel
theorem d_M_taken_25 : decode b_M_taken 25 = .ok (.i2l, 1) := by decide +kernel
theorem d_M_taken_26 : decode b_M_taken 26 = .ok (.ldc2_w 256, 3) := by decide +kernel
theorem d_M_taken_29 : decode b_M_taken 29 = .ok (.ldc2_w 261, 3) := by decide +kernel
theorem d_M_taken_32 : decode b_M_taken 32 = .ok (.invokestatic 58, 3) := by decide +kernel
theorem d_M_taken_35 : decode b_M_taken 35 = .ok (.ifCond .ne 5, 3) := by decide +kernel
theorem d_M_taken_38 : decode b_M_taken 38 = .ok (.iconst (-1), 1) := by decide +kernel
theorem d_M_taken_39 : decode b_M_taken 39 = .ok (.ireturn, 1) := by decide +kernel
theorem d_M_taken_40 : decode b_M_taken 40 = .ok (.aload_n 0, 1) := by decide +kernel
theorem d_M_taken_41 : decode b_M_taken 41 = .ok (.iload_n 1, 1) := by decide +kernel
theorem d_M_taken_42 : decode b_M_taken 42 = .ok (.invokevirtual 263, 3) := by decide +kernel
theorem d_M_taken_45 : decode b_M_taken 45 = .ok (.ifCond .eq 6, 3) := by decide +kernel
theorem d_M_taken_48 : decode b_M_taken 48 = .ok (.bipush (-11), 2) := by decide +kernel
theorem d_M_taken_50 : decode b_M_taken 50 = .ok (.ireturn, 1) := by decide +kernel
theorem d_M_taken_51 : decode b_M_taken 51 = .ok (.aload_n 0, 1) := by decide +kernel
theorem d_M_taken_52 : decode b_M_taken 52 = .ok (.getfield 43, 3) := by decide +kernel
theorem d_M_taken_55 : decode b_M_taken 55 = .ok (.iload_n 1, 1) := by decide +kernel
theorem d_M_taken_56 : decode b_M_taken 56 = .ok (.iaload, 1) := by decide +kernel
theorem d_M_taken_57 : decode b_M_taken 57 = .ok (.iconst 2, 1) := by decide +kernel
theorem d_M_taken_58 : decode b_M_taken 58 = .ok (.if_icmp .ne 28, 3) := by decide +kernel
theorem d_M_taken_61 : decode b_M_taken 61 = .ok (.aload_n 0, 1) := by decide +kernel
theorem d_M_taken_62 : decode b_M_taken 62 = .ok (.getfield 46, 3) := by decide +kernel
theorem d_M_taken_65 : decode b_M_taken 65 = .ok (.iload_n 1, 1) := by decide +kernel
theorem d_M_taken_66 : decode b_M_taken 66 = .ok (.iaload, 1) := by decide +kernel
theorem d_M_taken_67 : decode b_M_taken 67 = .ok (.iload_n 2, 1) := by decide +kernel
theorem d_M_taken_68 : decode b_M_taken 68 = .ok (.bipush 10, 2) := by decide +kernel
theorem d_M_taken_70 : decode b_M_taken 70 = .ok (.isub, 1) := by decide +kernel
theorem d_M_taken_71 : decode b_M_taken 71 = .ok (.if_icmp .ne 12, 3) := by decide +kernel
theorem d_M_taken_74 : decode b_M_taken 74 = .ok (.aload_n 0, 1) := by decide +kernel
theorem d_M_taken_75 : decode b_M_taken 75 = .ok (.getfield 49, 3) := by decide +kernel
theorem d_M_taken_78 : decode b_M_taken 78 = .ok (.iload_n 1, 1) := by decide +kernel
theorem d_M_taken_79 : decode b_M_taken 79 = .ok (.iaload, 1) := by decide +kernel
theorem d_M_taken_80 : decode b_M_taken 80 = .ok (.goto 5, 3) := by decide +kernel
theorem d_M_taken_83 : decode b_M_taken 83 = .ok (.bipush (-13), 2) := by decide +kernel
theorem d_M_taken_85 : decode b_M_taken 85 = .ok (.ireturn, 1) := by decide +kernel
theorem d_M_taken_86 : decode b_M_taken 86 = .ok (.aload_n 0, 1) := by decide +kernel
theorem d_M_taken_87 : decode b_M_taken 87 = .ok (.aload_n 0, 1) := by decide +kernel
theorem d_M_taken_88 : decode b_M_taken 88 = .ok (.getfield 46, 3) := by decide +kernel
theorem d_M_taken_91 : decode b_M_taken 91 = .ok (.iload_n 1, 1) := by decide +kernel
theorem d_M_taken_92 : decode b_M_taken 92 = .ok (.iaload, 1) := by decide +kernel
theorem d_M_taken_93 : decode b_M_taken 93 = .ok (.iconst 0, 1) := by decide +kernel
theorem d_M_taken_94 : decode b_M_taken 94 = .ok (.invokevirtual 64, 3) := by decide +kernel
theorem d_M_taken_97 : decode b_M_taken 97 = .ok (.istore_n 3, 1) := by decide +kernel
theorem d_M_taken_98 : decode b_M_taken 98 = .ok (.iload_n 2, 1) := by decide +kernel
theorem d_M_taken_99 : decode b_M_taken 99 = .ok (.bipush 10, 2) := by decide +kernel
theorem d_M_taken_101 : decode b_M_taken 101 = .ok (.if_icmp .ge 29, 3) := by decide +kernel
theorem d_M_taken_104 : decode b_M_taken 104 = .ok (.iload_n 2, 1) := by decide +kernel
theorem d_M_taken_105 : decode b_M_taken 105 = .ok (.ifCond .eq 16, 3) := by decide +kernel
theorem d_M_taken_108 : decode b_M_taken 108 = .ok (.iload_n 3, 1) := by decide +kernel
theorem d_M_taken_109 : decode b_M_taken 109 = .ok (.iload_n 2, 1) := by decide +kernel
theorem d_M_taken_110 : decode b_M_taken 110 = .ok (.if_icmp .eq 11, 3) := by decide +kernel
theorem d_M_taken_113 : decode b_M_taken 113 = .ok (.iload_n 3, 1) := by decide +kernel
theorem d_M_taken_114 : decode b_M_taken 114 = .ok (.invokestatic 266, 3) := by decide +kernel
theorem d_M_taken_117 : decode b_M_taken 117 = .ok (.iload_n 2, 1) := by decide +kernel
theorem d_M_taken_118 : decode b_M_taken 118 = .ok (.if_icmp .ne 12, 3) := by decide +kernel
theorem d_M_taken_121 : decode b_M_taken 121 = .ok (.aload_n 0, 1) := by decide +kernel
theorem d_M_taken_122 : decode b_M_taken 122 = .ok (.getfield 46, 3) := by decide +kernel
theorem d_M_taken_125 : decode b_M_taken 125 = .ok (.iload_n 1, 1) := by decide +kernel
theorem d_M_taken_126 : decode b_M_taken 126 = .ok (.iaload, 1) := by decide +kernel
theorem d_M_taken_127 : decode b_M_taken 127 = .ok (.goto 5, 3) := by decide +kernel
theorem d_M_taken_130 : decode b_M_taken 130 = .ok (.bipush (-13), 2) := by decide +kernel
theorem d_M_taken_132 : decode b_M_taken 132 = .ok (.ireturn, 1) := by decide +kernel
theorem d_M_ran_0 : decode b_M_ran 0 = .ok (.aload_n 0, 1) := by decide +kernel
theorem d_M_ran_1 : decode b_M_ran 1 = .ok (.getfield 269, 3) := by decide +kernel
theorem d_M_ran_4 : decode b_M_ran 4 = .ok (.bipush 30, 2) := by decide +kernel
theorem d_M_ran_6 : decode b_M_ran 6 = .ok (.if_icmp .ge 30, 3) := by decide +kernel
theorem d_M_ran_9 : decode b_M_ran 9 = .ok (.aload_n 0, 1) := by decide +kernel
theorem d_M_ran_10 : decode b_M_ran 10 = .ok (.getfield 272, 3) := by decide +kernel
theorem d_M_ran_13 : decode b_M_ran 13 = .ok (.ifCond .ne 23, 3) := by decide +kernel
theorem d_M_ran_16 : decode b_M_ran 16 = .ok (.aload_n 0, 1) := by decide +kernel
theorem d_M_ran_17 : decode b_M_ran 17 = .ok (.getfield 52, 3) := by decide +kernel
theorem d_M_ran_20 : decode b_M_ran 20 = .ok (.aload_n 0, 1) := by decide +kernel
theorem d_M_ran_21 : decode b_M_ran 21 = .ok (.getfield 269, 3) := by decide +kernel
theorem d_M_ran_24 : decode b_M_ran 24 = .ok (.iload_n 1, 1) := by decide +kernel
theorem d_M_ran_25 : decode b_M_ran 25 = .ok (.iastore, 1) := by decide +kernel
theorem d_M_ran_26 : decode b_M_ran 26 = .ok (.aload_n 0, 1) := by decide +kernel
theorem d_M_ran_27 : decode b_M_ran 27 = .ok (.dup, 1) := by decide +kernel
theorem d_M_ran_28 : decode b_M_ran 28 = .ok (.getfield 269, 3) := by decide +kernel
theorem d_M_ran_31 : decode b_M_ran 31 = .ok (.iconst 1, 1) := by decide +kernel
theorem d_M_ran_32 : decode b_M_ran 32 = .ok (.iadd, 1) := by decide +kernel
theorem d_M_ran_33 : decode b_M_ran 33 = .ok (.putfield 269, 3) := by decide +kernel
theorem d_M_ran_36 : decode b_M_ran 36 = .ok (.return_, 1) := by decide +kernel
theorem d_M_floatsBy_0 : decode b_M_floatsBy 0 = .ok (.iload_n 1, 1) := by decide +kernel
theorem d_M_floatsBy_1 : decode b_M_floatsBy 1 = .ok (.tableswitch 96 0 4 #[35, 96, 50, 80, 65], 35) := by decide +kernel
theorem d_M_floatsBy_36 : decode b_M_floatsBy 36 = .ok (.aload_n 0, 1) := by decide +kernel
theorem d_M_floatsBy_37 : decode b_M_floatsBy 37 = .ok (.bipush 10, 2) := by decide +kernel
theorem d_M_floatsBy_39 : decode b_M_floatsBy 39 = .ok (.invokevirtual 276, 3) := by decide +kernel
theorem d_M_floatsBy_42 : decode b_M_floatsBy 42 = .ok (.iload_n 2, 1) := by decide +kernel
theorem d_M_floatsBy_43 : decode b_M_floatsBy 43 = .ok (.iconst 3, 1) := by decide +kernel
theorem d_M_floatsBy_44 : decode b_M_floatsBy 44 = .ok (.imul, 1) := by decide +kernel
theorem d_M_floatsBy_45 : decode b_M_floatsBy 45 = .ok (.aload_n 0, 1) := by decide +kernel
theorem d_M_floatsBy_46 : decode b_M_floatsBy 46 = .ok (.getfield 279, 3) := by decide +kernel
theorem d_M_floatsBy_49 : decode b_M_floatsBy 49 = .ok (.iadd, 1) := by decide +kernel
theorem d_M_floatsBy_50 : decode b_M_floatsBy 50 = .ok (.ireturn, 1) := by decide +kernel
theorem d_M_floatsBy_51 : decode b_M_floatsBy 51 = .ok (.aload_n 0, 1) := by decide +kernel
theorem d_M_floatsBy_52 : decode b_M_floatsBy 52 = .ok (.bipush 30, 2) := by decide +kernel
theorem d_M_floatsBy_54 : decode b_M_floatsBy 54 = .ok (.invokevirtual 276, 3) := by decide +kernel
theorem d_M_floatsBy_57 : decode b_M_floatsBy 57 = .ok (.aload_n 0, 1) := by decide +kernel
theorem d_M_floatsBy_58 : decode b_M_floatsBy 58 = .ok (.iconst 0, 1) := by decide +kernel
theorem d_M_floatsBy_59 : decode b_M_floatsBy 59 = .ok (.iload_n 2, 1) := by decide +kernel
theorem d_M_floatsBy_60 : decode b_M_floatsBy 60 = .ok (.invokevirtual 282, 3) := by decide +kernel
theorem d_M_floatsBy_63 : decode b_M_floatsBy 63 = .ok (.iconst 4, 1) := by decide +kernel
theorem d_M_floatsBy_64 : decode b_M_floatsBy 64 = .ok (.iadd, 1) := by decide +kernel
theorem d_M_floatsBy_65 : decode b_M_floatsBy 65 = .ok (.ireturn, 1) := by decide +kernel
theorem d_M_floatsBy_66 : decode b_M_floatsBy 66 = .ok (.aload_n 0, 1) := by decide +kernel
theorem d_M_floatsBy_67 : decode b_M_floatsBy 67 = .ok (.bipush 40, 2) := by decide +kernel
theorem d_M_floatsBy_69 : decode b_M_floatsBy 69 = .ok (.invokevirtual 276, 3) := by decide +kernel
theorem d_M_floatsBy_72 : decode b_M_floatsBy 72 = .ok (.aload_n 0, 1) := by decide +kernel
theorem d_M_floatsBy_73 : decode b_M_floatsBy 73 = .ok (.iconst 2, 1) := by decide +kernel
theorem d_M_floatsBy_74 : decode b_M_floatsBy 74 = .ok (.iload_n 2, 1) := by decide +kernel
theorem d_M_floatsBy_75 : decode b_M_floatsBy 75 = .ok (.invokevirtual 282, 3) := by decide +kernel
theorem d_M_floatsBy_78 : decode b_M_floatsBy 78 = .ok (.iconst 2, 1) := by decide +kernel
theorem d_M_floatsBy_79 : decode b_M_floatsBy 79 = .ok (.imul, 1) := by decide +kernel
theorem d_M_floatsBy_80 : decode b_M_floatsBy 80 = .ok (.ireturn, 1) := by decide +kernel
theorem d_M_floatsBy_81 : decode b_M_floatsBy 81 = .ok (.aload_n 0, 1) := by decide +kernel
theorem d_M_floatsBy_82 : decode b_M_floatsBy 82 = .ok (.bipush 51, 2) := by decide +kernel
theorem d_M_floatsBy_84 : decode b_M_floatsBy 84 = .ok (.invokevirtual 276, 3) := by decide +kernel
theorem d_M_floatsBy_87 : decode b_M_floatsBy 87 = .ok (.aload_n 0, 1) := by decide +kernel
theorem d_M_floatsBy_88 : decode b_M_floatsBy 88 = .ok (.iconst 1, 1) := by decide +kernel
theorem d_M_floatsBy_89 : decode b_M_floatsBy 89 = .ok (.iload_n 2, 1) := by decide +kernel
theorem d_M_floatsBy_90 : decode b_M_floatsBy 90 = .ok (.invokevirtual 282, 3) := by decide +kernel
theorem d_M_floatsBy_93 : decode b_M_floatsBy 93 = .ok (.bipush 7, 2) := by decide +kernel
theorem d_M_floatsBy_95 : decode b_M_floatsBy 95 = .ok (.isub, 1) := by decide +kernel
theorem d_M_floatsBy_96 : decode b_M_floatsBy 96 = .ok (.ireturn, 1) := by decide +kernel
theorem d_M_floatsBy_97 : decode b_M_floatsBy 97 = .ok (.aload_n 0, 1) := by decide +kernel
theorem d_M_floatsBy_98 : decode b_M_floatsBy 98 = .ok (.iconst 0, 1) := by decide +kernel
theorem d_M_floatsBy_99 : decode b_M_floatsBy 99 = .ok (.iload_n 2, 1) := by decide +kernel
theorem d_M_floatsBy_100 : decode b_M_floatsBy 100 = .ok (.invokevirtual 282, 3) := by decide +kernel
theorem d_M_floatsBy_103 : decode b_M_floatsBy 103 = .ok (.ireturn, 1) := by decide +kernel
theorem d_M_slopsBy_0 : decode b_M_slopsBy 0 = .ok (.iconst 0, 1) := by decide +kernel
theorem d_M_slopsBy_1 : decode b_M_slopsBy 1 = .ok (.istore_n 3, 1) := by decide +kernel
theorem d_M_slopsBy_2 : decode b_M_slopsBy 2 = .ok (.iload_n 1, 1) := by decide +kernel
theorem d_M_slopsBy_3 : decode b_M_slopsBy 3 = .ok (.tableswitch 119 0 4 #[33, 66, 119, 119, 81], 33) := by decide +kernel
theorem d_M_slopsBy_36 : decode b_M_slopsBy 36 = .ok (.aload_n 0, 1) := by decide +kernel
theorem d_M_slopsBy_37 : decode b_M_slopsBy 37 = .ok (.bipush 11, 2) := by decide +kernel
theorem d_M_slopsBy_39 : decode b_M_slopsBy 39 = .ok (.invokevirtual 276, 3) := by decide +kernel
theorem d_M_slopsBy_42 : decode b_M_slopsBy 42 = .ok (.aload_n 0, 1) := by decide +kernel
theorem d_M_slopsBy_43 : decode b_M_slopsBy 43 = .ok (.aload_n 0, 1) := by decide +kernel
theorem d_M_slopsBy_44 : decode b_M_slopsBy 44 = .ok (.aload_n 0, 1) := by decide +kernel
theorem d_M_slopsBy_45 : decode b_M_slopsBy 45 = .ok (.getfield 279, 3) := by decide +kernel
theorem d_M_slopsBy_48 : decode b_M_slopsBy 48 = .ok (.iconst 0, 1) := by decide +kernel
theorem d_M_slopsBy_49 : decode b_M_slopsBy 49 = .ok (.invokevirtual 64, 3) := by decide +kernel
theorem d_M_slopsBy_52 : decode b_M_slopsBy 52 = .ok (.iload_n 2, 1) := by decide +kernel
theorem d_M_slopsBy_53 : decode b_M_slopsBy 53 = .ok (.invokevirtual 282, 3) := by decide +kernel
theorem d_M_slopsBy_56 : decode b_M_slopsBy 56 = .ok (.aload_n 0, 1) := by decide +kernel
theorem d_M_slopsBy_57 : decode b_M_slopsBy 57 = .ok (.aload_n 0, 1) := by decide +kernel
theorem d_M_slopsBy_58 : decode b_M_slopsBy 58 = .ok (.getfield 279, 3) := by decide +kernel
theorem d_M_slopsBy_61 : decode b_M_slopsBy 61 = .ok (.iconst 3, 1) := by decide +kernel
theorem d_M_slopsBy_62 : decode b_M_slopsBy 62 = .ok (.invokevirtual 64, 3) := by decide +kernel
theorem d_M_slopsBy_65 : decode b_M_slopsBy 65 = .ok (.iconst 2, 1) := by decide +kernel
theorem d_M_slopsBy_66 : decode b_M_slopsBy 66 = .ok (.imul, 1) := by decide +kernel
theorem d_M_slopsBy_67 : decode b_M_slopsBy 67 = .ok (.isub, 1) := by decide +kernel
theorem d_M_slopsBy_68 : decode b_M_slopsBy 68 = .ok (.ireturn, 1) := by decide +kernel
theorem d_M_slopsBy_69 : decode b_M_slopsBy 69 = .ok (.aload_n 0, 1) := by decide +kernel
theorem d_M_slopsBy_70 : decode b_M_slopsBy 70 = .ok (.bipush 20, 2) := by decide +kernel
theorem d_M_slopsBy_72 : decode b_M_slopsBy 72 = .ok (.invokevirtual 276, 3) := by decide +kernel
theorem d_M_slopsBy_75 : decode b_M_slopsBy 75 = .ok (.iconst 0, 1) := by decide +kernel
theorem d_M_slopsBy_76 : decode b_M_slopsBy 76 = .ok (.aload_n 0, 1) := by decide +kernel
theorem d_M_slopsBy_77 : decode b_M_slopsBy 77 = .ok (.iconst 0, 1) := by decide +kernel
theorem d_M_slopsBy_78 : decode b_M_slopsBy 78 = .ok (.iload_n 2, 1) := by decide +kernel
theorem d_M_slopsBy_79 : decode b_M_slopsBy 79 = .ok (.invokevirtual 285, 3) := by decide +kernel
theorem d_M_slopsBy_82 : decode b_M_slopsBy 82 = .ok (.isub, 1) := by decide +kernel
theorem d_M_slopsBy_83 : decode b_M_slopsBy 83 = .ok (.ireturn, 1) := by decide +kernel
theorem d_M_slopsBy_84 : decode b_M_slopsBy 84 = .ok (.aload_n 0, 1) := by decide +kernel
theorem d_M_slopsBy_85 : decode b_M_slopsBy 85 = .ok (.bipush 41, 2) := by decide +kernel
theorem d_M_slopsBy_87 : decode b_M_slopsBy 87 = .ok (.invokevirtual 276, 3) := by decide +kernel
theorem d_M_slopsBy_90 : decode b_M_slopsBy 90 = .ok (.aload_n 0, 1) := by decide +kernel
theorem d_M_slopsBy_91 : decode b_M_slopsBy 91 = .ok (.iconst 2, 1) := by decide +kernel
theorem d_M_slopsBy_92 : decode b_M_slopsBy 92 = .ok (.iload_n 2, 1) := by decide +kernel
theorem d_M_slopsBy_93 : decode b_M_slopsBy 93 = .ok (.invokevirtual 285, 3) := by decide +kernel
theorem d_M_slopsBy_96 : decode b_M_slopsBy 96 = .ok (.istore_n 3, 1) := by decide +kernel
theorem d_M_slopsBy_97 : decode b_M_slopsBy 97 = .ok (.iload_n 3, 1) := by decide +kernel
theorem d_M_slopsBy_98 : decode b_M_slopsBy 98 = .ok (.aload_n 0, 1) := by decide +kernel
theorem d_M_slopsBy_99 : decode b_M_slopsBy 99 = .ok (.aload_n 0, 1) := by decide +kernel
theorem d_M_slopsBy_100 : decode b_M_slopsBy 100 = .ok (.aload_n 0, 1) := by decide +kernel
theorem d_M_slopsBy_101 : decode b_M_slopsBy 101 = .ok (.getfield 279, 3) := by decide +kernel
theorem d_M_slopsBy_104 : decode b_M_slopsBy 104 = .ok (.iconst 0, 1) := by decide +kernel
theorem d_M_slopsBy_105 : decode b_M_slopsBy 105 = .ok (.invokevirtual 64, 3) := by decide +kernel
theorem d_M_slopsBy_108 : decode b_M_slopsBy 108 = .ok (.aload_n 0, 1) := by decide +kernel
theorem d_M_slopsBy_109 : decode b_M_slopsBy 109 = .ok (.aload_n 0, 1) := by decide +kernel
theorem d_M_slopsBy_110 : decode b_M_slopsBy 110 = .ok (.getfield 279, 3) := by decide +kernel
theorem d_M_slopsBy_113 : decode b_M_slopsBy 113 = .ok (.iconst 3, 1) := by decide +kernel
theorem d_M_slopsBy_114 : decode b_M_slopsBy 114 = .ok (.invokevirtual 64, 3) := by decide +kernel
theorem d_M_slopsBy_117 : decode b_M_slopsBy 117 = .ok (.invokevirtual 282, 3) := by decide +kernel
theorem d_M_slopsBy_120 : decode b_M_slopsBy 120 = .ok (.iadd, 1) := by decide +kernel
theorem d_M_slopsBy_121 : decode b_M_slopsBy 121 = .ok (.ireturn, 1) := by decide +kernel
theorem d_M_slopsBy_122 : decode b_M_slopsBy 122 = .ok (.aload_n 0, 1) := by decide +kernel
theorem d_M_slopsBy_123 : decode b_M_slopsBy 123 = .ok (.iload_n 1, 1) := by decide +kernel
theorem d_M_slopsBy_124 : decode b_M_slopsBy 124 = .ok (.invokestatic 266, 3) := by decide +kernel
theorem d_M_slopsBy_127 : decode b_M_slopsBy 127 = .ok (.iload_n 2, 1) := by decide +kernel
theorem d_M_slopsBy_128 : decode b_M_slopsBy 128 = .ok (.invokevirtual 285, 3) := by decide +kernel
theorem d_M_slopsBy_131 : decode b_M_slopsBy 131 = .ok (.ireturn, 1) := by decide +kernel
theorem d_M_partsBy_0 : decode b_M_partsBy 0 = .ok (.iconst 0, 1) := by decide +kernel
theorem d_M_partsBy_1 : decode b_M_partsBy 1 = .ok (.istore_n 3, 1) := by decide +kernel
theorem d_M_partsBy_2 : decode b_M_partsBy 2 = .ok (.iload_n 1, 1) := by decide +kernel
theorem d_M_partsBy_3 : decode b_M_partsBy 3 = .ok (.lookupswitch 147 #[(0, 33), (3, 86), (5, 114)], 33) := by decide +kernel
theorem d_M_partsBy_36 : decode b_M_partsBy 36 = .ok (.aload_n 0, 1) := by decide +kernel
theorem d_M_partsBy_37 : decode b_M_partsBy 37 = .ok (.bipush 12, 2) := by decide +kernel
theorem d_M_partsBy_39 : decode b_M_partsBy 39 = .ok (.invokevirtual 276, 3) := by decide +kernel
theorem d_M_partsBy_42 : decode b_M_partsBy 42 = .ok (.aload_n 0, 1) := by decide +kernel
theorem d_M_partsBy_43 : decode b_M_partsBy 43 = .ok (.aload_n 0, 1) := by decide +kernel
theorem d_M_partsBy_44 : decode b_M_partsBy 44 = .ok (.getfield 279, 3) := by decide +kernel
theorem d_M_partsBy_47 : decode b_M_partsBy 47 = .ok (.iconst 3, 1) := by decide +kernel
theorem d_M_partsBy_48 : decode b_M_partsBy 48 = .ok (.invokevirtual 64, 3) := by decide +kernel
theorem d_M_partsBy_51 : decode b_M_partsBy 51 = .ok (.aload_n 0, 1) := by decide +kernel
theorem d_M_partsBy_52 : decode b_M_partsBy 52 = .ok (.getfield 279, 3) := by decide +kernel
theorem d_M_partsBy_55 : decode b_M_partsBy 55 = .ok (.isub, 1) := by decide +kernel
theorem d_M_partsBy_56 : decode b_M_partsBy 56 = .ok (.istore_n 3, 1) := by decide +kernel
theorem d_M_partsBy_57 : decode b_M_partsBy 57 = .ok (.aload_n 0, 1) := by decide +kernel
theorem d_M_partsBy_58 : decode b_M_partsBy 58 = .ok (.aload_n 0, 1) := by decide +kernel
theorem d_M_partsBy_59 : decode b_M_partsBy 59 = .ok (.getfield 272, 3) := by decide +kernel
theorem d_M_partsBy_62 : decode b_M_partsBy 62 = .ok (.ifCond .ne 7, 3) := by decide +kernel
theorem d_M_partsBy_65 : decode b_M_partsBy 65 = .ok (.iload_n 3, 1) := by decide +kernel
theorem d_M_partsBy_66 : decode b_M_partsBy 66 = .ok (.ifCond .ne 7, 3) := by decide +kernel
theorem d_M_partsBy_69 : decode b_M_partsBy 69 = .ok (.iconst 1, 1) := by decide +kernel
theorem d_M_partsBy_70 : decode b_M_partsBy 70 = .ok (.goto 4, 3) := by decide +kernel
theorem d_M_partsBy_73 : decode b_M_partsBy 73 = .ok (.iconst 0, 1) := by decide +kernel
theorem d_M_partsBy_74 : decode b_M_partsBy 74 = .ok (.putfield 272, 3) := by decide +kernel
theorem d_M_partsBy_77 : decode b_M_partsBy 77 = .ok (.iload_n 3, 1) := by decide +kernel
theorem d_M_partsBy_78 : decode b_M_partsBy 78 = .ok (.ifCond .ne 7, 3) := by decide +kernel
theorem d_M_partsBy_81 : decode b_M_partsBy 81 = .ok (.iconst 0, 1) := by decide +kernel
theorem d_M_partsBy_82 : decode b_M_partsBy 82 = .ok (.goto 6, 3) := by decide +kernel
theorem d_M_partsBy_85 : decode b_M_partsBy 85 = .ok (.iload_n 2, 1) := by decide +kernel
theorem d_M_partsBy_86 : decode b_M_partsBy 86 = .ok (.iload_n 3, 1) := by decide +kernel
theorem d_M_partsBy_87 : decode b_M_partsBy 87 = .ok (.idiv, 1) := by decide +kernel
theorem d_M_partsBy_88 : decode b_M_partsBy 88 = .ok (.ireturn, 1) := by decide +kernel
theorem d_M_partsBy_89 : decode b_M_partsBy 89 = .ok (.aload_n 0, 1) := by decide +kernel
theorem d_M_partsBy_90 : decode b_M_partsBy 90 = .ok (.bipush 50, 2) := by decide +kernel
theorem d_M_partsBy_92 : decode b_M_partsBy 92 = .ok (.invokevirtual 276, 3) := by decide +kernel
theorem d_M_partsBy_95 : decode b_M_partsBy 95 = .ok (.aload_n 0, 1) := by decide +kernel
theorem d_M_partsBy_96 : decode b_M_partsBy 96 = .ok (.iconst 1, 1) := by decide +kernel
theorem d_M_partsBy_97 : decode b_M_partsBy 97 = .ok (.iload_n 2, 1) := by decide +kernel
theorem d_M_partsBy_98 : decode b_M_partsBy 98 = .ok (.aload_n 0, 1) := by decide +kernel
theorem d_M_partsBy_99 : decode b_M_partsBy 99 = .ok (.aload_n 0, 1) := by decide +kernel
theorem d_M_partsBy_100 : decode b_M_partsBy 100 = .ok (.getfield 279, 3) := by decide +kernel
theorem d_M_partsBy_103 : decode b_M_partsBy 103 = .ok (.iconst 3, 1) := by decide +kernel
theorem d_M_partsBy_104 : decode b_M_partsBy 104 = .ok (.invokevirtual 64, 3) := by decide +kernel
theorem d_M_partsBy_107 : decode b_M_partsBy 107 = .ok (.iadd, 1) := by decide +kernel
theorem d_M_partsBy_108 : decode b_M_partsBy 108 = .ok (.invokevirtual 288, 3) := by decide +kernel
theorem d_M_partsBy_111 : decode b_M_partsBy 111 = .ok (.aload_n 0, 1) := by decide +kernel
theorem d_M_partsBy_112 : decode b_M_partsBy 112 = .ok (.getfield 279, 3) := by decide +kernel
theorem d_M_partsBy_115 : decode b_M_partsBy 115 = .ok (.ixor, 1) := by decide +kernel
theorem d_M_partsBy_116 : decode b_M_partsBy 116 = .ok (.ireturn, 1) := by decide +kernel
theorem d_M_partsBy_117 : decode b_M_partsBy 117 = .ok (.aload_n 0, 1) := by decide +kernel
theorem d_M_partsBy_118 : decode b_M_partsBy 118 = .ok (.bipush 61, 2) := by decide +kernel
theorem d_M_partsBy_120 : decode b_M_partsBy 120 = .ok (.invokevirtual 276, 3) := by decide +kernel
theorem d_M_partsBy_123 : decode b_M_partsBy 123 = .ok (.aload_n 0, 1) := by decide +kernel
theorem d_M_partsBy_124 : decode b_M_partsBy 124 = .ok (.iconst 0, 1) := by decide +kernel
theorem d_M_partsBy_125 : decode b_M_partsBy 125 = .ok (.iload_n 2, 1) := by decide +kernel
theorem d_M_partsBy_126 : decode b_M_partsBy 126 = .ok (.invokevirtual 288, 3) := by decide +kernel
theorem d_M_partsBy_129 : decode b_M_partsBy 129 = .ok (.istore_n 3, 1) := by decide +kernel
theorem d_M_partsBy_130 : decode b_M_partsBy 130 = .ok (.iload_n 3, 1) := by decide +kernel
theorem d_M_partsBy_131 : decode b_M_partsBy 131 = .ok (.aload_n 0, 1) := by decide +kernel
theorem d_M_partsBy_132 : decode b_M_partsBy 132 = .ok (.aload_n 0, 1) := by decide +kernel
theorem d_M_partsBy_133 : decode b_M_partsBy 133 = .ok (.aload_n 0, 1) := by decide +kernel
theorem d_M_partsBy_134 : decode b_M_partsBy 134 = .ok (.getfield 279, 3) := by decide +kernel
theorem d_M_partsBy_137 : decode b_M_partsBy 137 = .ok (.iconst 0, 1) := by decide +kernel
theorem d_M_partsBy_138 : decode b_M_partsBy 138 = .ok (.invokevirtual 64, 3) := by decide +kernel
theorem d_M_partsBy_141 : decode b_M_partsBy 141 = .ok (.aload_n 0, 1) := by decide +kernel
theorem d_M_partsBy_142 : decode b_M_partsBy 142 = .ok (.getfield 279, 3) := by decide +kernel
theorem d_M_partsBy_145 : decode b_M_partsBy 145 = .ok (.invokevirtual 282, 3) := by decide +kernel
theorem d_M_partsBy_148 : decode b_M_partsBy 148 = .ok (.isub, 1) := by decide +kernel
theorem d_M_partsBy_149 : decode b_M_partsBy 149 = .ok (.ireturn, 1) := by decide +kernel
theorem d_M_partsBy_150 : decode b_M_partsBy 150 = .ok (.aload_n 0, 1) := by decide +kernel
theorem d_M_partsBy_151 : decode b_M_partsBy 151 = .ok (.iload_n 1, 1) := by decide +kernel
theorem d_M_partsBy_152 : decode b_M_partsBy 152 = .ok (.invokestatic 266, 3) := by decide +kernel
theorem d_M_partsBy_155 : decode b_M_partsBy 155 = .ok (.iload_n 2, 1) := by decide +kernel
theorem d_M_partsBy_156 : decode b_M_partsBy 156 = .ok (.invokevirtual 288, 3) := by decide +kernel
theorem d_M_partsBy_159 : decode b_M_partsBy 159 = .ok (.ireturn, 1) := by decide +kernel
theorem d_M_landsBy_0 : decode b_M_landsBy 0 = .ok (.iconst 0, 1) := by decide +kernel
theorem d_M_landsBy_1 : decode b_M_landsBy 1 = .ok (.istore_n 3, 1) := by decide +kernel
theorem d_M_landsBy_2 : decode b_M_landsBy 2 = .ok (.iload_n 1, 1) := by decide +kernel
theorem d_M_landsBy_3 : decode b_M_landsBy 3 = .ok (.lookupswitch 106 #[(0, 33), (2, 58), (5, 91)], 33) := by decide +kernel
theorem d_M_landsBy_36 : decode b_M_landsBy 36 = .ok (.aload_n 0, 1) := by decide +kernel
theorem d_M_landsBy_37 : decode b_M_landsBy 37 = .ok (.bipush 13, 2) := by decide +kernel
theorem d_M_landsBy_39 : decode b_M_landsBy 39 = .ok (.invokevirtual 276, 3) := by decide +kernel
theorem d_M_landsBy_42 : decode b_M_landsBy 42 = .ok (.aload_n 0, 1) := by decide +kernel
theorem d_M_landsBy_43 : decode b_M_landsBy 43 = .ok (.aload_n 0, 1) := by decide +kernel
theorem d_M_landsBy_44 : decode b_M_landsBy 44 = .ok (.aload_n 0, 1) := by decide +kernel
theorem d_M_landsBy_45 : decode b_M_landsBy 45 = .ok (.getfield 279, 3) := by decide +kernel
theorem d_M_landsBy_48 : decode b_M_landsBy 48 = .ok (.iconst 0, 1) := by decide +kernel
theorem d_M_landsBy_49 : decode b_M_landsBy 49 = .ok (.invokevirtual 64, 3) := by decide +kernel
theorem d_M_landsBy_52 : decode b_M_landsBy 52 = .ok (.iload_n 2, 1) := by decide +kernel
theorem d_M_landsBy_53 : decode b_M_landsBy 53 = .ok (.invokevirtual 285, 3) := by decide +kernel
theorem d_M_landsBy_56 : decode b_M_landsBy 56 = .ok (.sipush 170, 3) := by decide +kernel
theorem d_M_landsBy_59 : decode b_M_landsBy 59 = .ok (.ixor, 1) := by decide +kernel
theorem d_M_landsBy_60 : decode b_M_landsBy 60 = .ok (.ireturn, 1) := by decide +kernel
theorem d_M_landsBy_61 : decode b_M_landsBy 61 = .ok (.aload_n 0, 1) := by decide +kernel
theorem d_M_landsBy_62 : decode b_M_landsBy 62 = .ok (.bipush 31, 2) := by decide +kernel
theorem d_M_landsBy_64 : decode b_M_landsBy 64 = .ok (.invokevirtual 276, 3) := by decide +kernel
theorem d_M_landsBy_67 : decode b_M_landsBy 67 = .ok (.aload_n 0, 1) := by decide +kernel
theorem d_M_landsBy_68 : decode b_M_landsBy 68 = .ok (.iconst 0, 1) := by decide +kernel
theorem d_M_landsBy_69 : decode b_M_landsBy 69 = .ok (.iload_n 2, 1) := by decide +kernel
theorem d_M_landsBy_70 : decode b_M_landsBy 70 = .ok (.invokevirtual 291, 3) := by decide +kernel
theorem d_M_landsBy_73 : decode b_M_landsBy 73 = .ok (.istore_n 3, 1) := by decide +kernel
theorem d_M_landsBy_74 : decode b_M_landsBy 74 = .ok (.iload_n 3, 1) := by decide +kernel
theorem d_M_landsBy_75 : decode b_M_landsBy 75 = .ok (.aload_n 0, 1) := by decide +kernel
theorem d_M_landsBy_76 : decode b_M_landsBy 76 = .ok (.aload_n 0, 1) := by decide +kernel
theorem d_M_landsBy_77 : decode b_M_landsBy 77 = .ok (.aload_n 0, 1) := by decide +kernel
theorem d_M_landsBy_78 : decode b_M_landsBy 78 = .ok (.getfield 279, 3) := by decide +kernel
theorem d_M_landsBy_81 : decode b_M_landsBy 81 = .ok (.iconst 0, 1) := by decide +kernel
theorem d_M_landsBy_82 : decode b_M_landsBy 82 = .ok (.invokevirtual 64, 3) := by decide +kernel
theorem d_M_landsBy_85 : decode b_M_landsBy 85 = .ok (.aload_n 0, 1) := by decide +kernel
theorem d_M_landsBy_86 : decode b_M_landsBy 86 = .ok (.getfield 279, 3) := by decide +kernel
theorem d_M_landsBy_89 : decode b_M_landsBy 89 = .ok (.invokevirtual 288, 3) := by decide +kernel
theorem d_M_landsBy_92 : decode b_M_landsBy 92 = .ok (.isub, 1) := by decide +kernel
theorem d_M_landsBy_93 : decode b_M_landsBy 93 = .ok (.ireturn, 1) := by decide +kernel
theorem d_M_landsBy_94 : decode b_M_landsBy 94 = .ok (.aload_n 0, 1) := by decide +kernel
theorem d_M_landsBy_95 : decode b_M_landsBy 95 = .ok (.bipush 60, 2) := by decide +kernel
theorem d_M_landsBy_97 : decode b_M_landsBy 97 = .ok (.invokevirtual 276, 3) := by decide +kernel
theorem d_M_landsBy_100 : decode b_M_landsBy 100 = .ok (.aload_n 0, 1) := by decide +kernel
theorem d_M_landsBy_101 : decode b_M_landsBy 101 = .ok (.iconst 0, 1) := by decide +kernel
theorem d_M_landsBy_102 : decode b_M_landsBy 102 = .ok (.iload_n 2, 1) := by decide +kernel
theorem d_M_landsBy_103 : decode b_M_landsBy 103 = .ok (.invokevirtual 291, 3) := by decide +kernel
theorem d_M_landsBy_106 : decode b_M_landsBy 106 = .ok (.iconst 5, 1) := by decide +kernel
theorem d_M_landsBy_107 : decode b_M_landsBy 107 = .ok (.imul, 1) := by decide +kernel
theorem d_M_landsBy_108 : decode b_M_landsBy 108 = .ok (.ireturn, 1) := by decide +kernel
theorem d_M_landsBy_109 : decode b_M_landsBy 109 = .ok (.aload_n 0, 1) := by decide +kernel
theorem d_M_landsBy_110 : decode b_M_landsBy 110 = .ok (.iload_n 1, 1) := by decide +kernel
theorem d_M_landsBy_111 : decode b_M_landsBy 111 = .ok (.invokestatic 266, 3) := by decide +kernel
theorem d_M_landsBy_114 : decode b_M_landsBy 114 = .ok (.iload_n 2, 1) := by decide +kernel
theorem d_M_landsBy_115 : decode b_M_landsBy 115 = .ok (.invokevirtual 291, 3) := by decide +kernel
theorem d_M_landsBy_118 : decode b_M_landsBy 118 = .ok (.ireturn, 1) := by decide +kernel
theorem d_M_act_0 : decode b_M_act 0 = .ok (.aload_n 0, 1) := by decide +kernel
theorem d_M_act_1 : decode b_M_act 1 = .ok (.iconst 0, 1) := by decide +kernel
theorem d_M_act_2 : decode b_M_act 2 = .ok (.putfield 269, 3) := by decide +kernel
theorem d_M_act_5 : decode b_M_act 5 = .ok (.aload_n 0, 1) := by decide +kernel
theorem d_M_act_6 : decode b_M_act 6 = .ok (.iconst 0, 1) := by decide +kernel
theorem d_M_act_7 : decode b_M_act 7 = .ok (.putfield 272, 3) := by decide +kernel
theorem d_M_act_10 : decode b_M_act 10 = .ok (.iload_n 1, 1) := by decide +kernel
theorem d_M_act_11 : decode b_M_act 11 = .ok (.i2l, 1) := by decide +kernel
theorem d_M_act_12 : decode b_M_act 12 = .ok (.lconst 0, 1) := by decide +kernel
theorem d_M_act_13 : decode b_M_act 13 = .ok (.ldc2_w 98, 3) := by decide +kernel
theorem d_M_act_16 : decode b_M_act 16 = .ok (.invokestatic 58, 3) := by decide +kernel
theorem d_M_act_19 : decode b_M_act 19 = .ok (.ifCond .eq 33, 3) := by decide +kernel
theorem d_M_act_22 : decode b_M_act 22 = .ok (.iload_n 2, 1) := by decide +kernel
theorem d_M_act_23 : decode b_M_act 23 = .ok (.i2l, 1) := by decide +kernel
theorem d_M_act_24 : decode b_M_act 24 = .ok (.lconst 0, 1) := by decide +kernel
theorem d_M_act_25 : decode b_M_act 25 = .ok (.ldc2_w 98, 3) := by decide +kernel
theorem d_M_act_28 : decode b_M_act 28 = .ok (.invokestatic 58, 3) := by decide +kernel
theorem d_M_act_31 : decode b_M_act 31 = .ok (.ifCond .eq 21, 3) := by decide +kernel
theorem d_M_act_34 : decode b_M_act 34 = .ok (.aload_n 0, 1) := by decide +kernel
theorem d_M_act_35 : decode b_M_act 35 = .ok (.iload_n 1, 1) := by decide +kernel
theorem d_M_act_36 : decode b_M_act 36 = .ok (.invokevirtual 263, 3) := by decide +kernel
theorem d_M_act_39 : decode b_M_act 39 = .ok (.ifCond .ne 13, 3) := by decide +kernel
theorem d_M_act_42 : decode b_M_act 42 = .ok (.aload_n 0, 1) := by decide +kernel
theorem d_M_act_43 : decode b_M_act 43 = .ok (.getfield 43, 3) := by decide +kernel
theorem d_M_act_46 : decode b_M_act 46 = .ok (.iload_n 1, 1) := by decide +kernel
theorem d_M_act_47 : decode b_M_act 47 = .ok (.iaload, 1) := by decide +kernel
theorem d_M_act_48 : decode b_M_act 48 = .ok (.iconst 2, 1) := by decide +kernel
theorem d_M_act_49 : decode b_M_act 49 = .ok (.if_icmp .ne 5, 3) := by decide +kernel
theorem d_M_act_52 : decode b_M_act 52 = .ok (.iconst 0, 1) := by decide +kernel
theorem d_M_act_53 : decode b_M_act 53 = .ok (.ireturn, 1) := by decide +kernel
theorem d_M_act_54 : decode b_M_act 54 = .ok (.aload_n 0, 1) := by decide +kernel
theorem d_M_act_55 : decode b_M_act 55 = .ok (.aload_n 0, 1) := by decide +kernel
theorem d_M_act_56 : decode b_M_act 56 = .ok (.getfield 46, 3) := by decide +kernel
theorem d_M_act_59 : decode b_M_act 59 = .ok (.iload_n 1, 1) := by decide +kernel
theorem d_M_act_60 : decode b_M_act 60 = .ok (.iaload, 1) := by decide +kernel
theorem d_M_act_61 : decode b_M_act 61 = .ok (.putfield 279, 3) := by decide +kernel
theorem d_M_act_64 : decode b_M_act 64 = .ok (.aload_n 0, 1) := by decide +kernel
theorem d_M_act_65 : decode b_M_act 65 = .ok (.aload_n 0, 1) := by decide +kernel
theorem d_M_act_66 : decode b_M_act 66 = .ok (.getfield 279, 3) := by decide +kernel
theorem d_M_act_69 : decode b_M_act 69 = .ok (.iconst 0, 1) := by decide +kernel
theorem d_M_act_70 : decode b_M_act 70 = .ok (.invokevirtual 64, 3) := by decide +kernel
theorem d_M_act_73 : decode b_M_act 73 = .ok (.istore 4, 2) := by decide +kernel
theorem d_M_act_75 : decode b_M_act 75 = .ok (.iload_n 2, 1) := by decide +kernel
theorem d_M_act_76 : decode b_M_act 76 = .ok (.ifCond .ne 13, 3) := by decide +kernel
theorem d_M_act_79 : decode b_M_act 79 = .ok (.aload_n 0, 1) := by decide +kernel
theorem d_M_act_80 : decode b_M_act 80 = .ok (.iload 4, 2) := by decide +kernel
theorem d_M_act_82 : decode b_M_act 82 = .ok (.iload_n 3, 1) := by decide +kernel
theorem d_M_act_83 : decode b_M_act 83 = .ok (.invokevirtual 282, 3) := by decide +kernel
theorem d_M_act_86 : decode b_M_act 86 = .ok (.goto 40, 3) := by decide +kernel
theorem d_M_act_89 : decode b_M_act 89 = .ok (.iload_n 2, 1) := by decide +kernel
theorem d_M_act_90 : decode b_M_act 90 = .ok (.iconst 1, 1) := by decide +kernel
theorem d_M_act_91 : decode b_M_act 91 = .ok (.if_icmp .ne 13, 3) := by decide +kernel
theorem d_M_act_94 : decode b_M_act 94 = .ok (.aload_n 0, 1) := by decide +kernel
theorem d_M_act_95 : decode b_M_act 95 = .ok (.iload 4, 2) := by decide +kernel
theorem d_M_act_97 : decode b_M_act 97 = .ok (.iload_n 3, 1) := by decide +kernel
theorem d_M_act_98 : decode b_M_act 98 = .ok (.invokevirtual 285, 3) := by decide +kernel
theorem d_M_act_101 : decode b_M_act 101 = .ok (.goto 25, 3) := by decide +kernel
theorem d_M_act_104 : decode b_M_act 104 = .ok (.iload_n 2, 1) := by decide +kernel
theorem d_M_act_105 : decode b_M_act 105 = .ok (.iconst 2, 1) := by decide +kernel
theorem d_M_act_106 : decode b_M_act 106 = .ok (.if_icmp .ne 13, 3) := by decide +kernel
theorem d_M_act_109 : decode b_M_act 109 = .ok (.aload_n 0, 1) := by decide +kernel
theorem d_M_act_110 : decode b_M_act 110 = .ok (.iload 4, 2) := by decide +kernel
theorem d_M_act_112 : decode b_M_act 112 = .ok (.iload_n 3, 1) := by decide +kernel
theorem d_M_act_113 : decode b_M_act 113 = .ok (.invokevirtual 288, 3) := by decide +kernel
theorem d_M_act_116 : decode b_M_act 116 = .ok (.goto 10, 3) := by decide +kernel
theorem d_M_act_119 : decode b_M_act 119 = .ok (.aload_n 0, 1) := by decide +kernel
theorem d_M_act_120 : decode b_M_act 120 = .ok (.iload 4, 2) := by decide +kernel
theorem d_M_act_122 : decode b_M_act 122 = .ok (.iload_n 3, 1) := by decide +kernel
theorem d_M_act_123 : decode b_M_act 123 = .ok (.invokevirtual 291, 3) := by decide +kernel
theorem d_M_act_126 : decode b_M_act 126 = .ok (.istore 5, 2) := by decide +kernel
theorem d_M_act_128 : decode b_M_act 128 = .ok (.aload_n 0, 1) := by decide +kernel
theorem d_M_act_129 : decode b_M_act 129 = .ok (.getfield 272, 3) := by decide +kernel
theorem d_M_act_132 : decode b_M_act 132 = .ok (.ifCond .eq 8, 3) := by decide +kernel
theorem d_M_act_135 : decode b_M_act 135 = .ok (.bipush (-15), 2) := by decide +kernel
theorem d_M_act_137 : decode b_M_act 137 = .ok (.goto 5, 3) := by decide +kernel
theorem d_M_act_140 : decode b_M_act 140 = .ok (.iload 5, 2) := by decide +kernel
theorem d_M_act_142 : decode b_M_act 142 = .ok (.ireturn, 1) := by decide +kernel
theorem d_M_trace_0 : decode b_M_trace 0 = .ok (.iload_n 1, 1) := by decide +kernel
theorem d_M_trace_1 : decode b_M_trace 1 = .ok (.i2l, 1) := by decide +kernel
theorem d_M_trace_2 : decode b_M_trace 2 = .ok (.lconst 0, 1) := by decide +kernel
theorem d_M_trace_3 : decode b_M_trace 3 = .ok (.aload_n 0, 1) := by decide +kernel
theorem d_M_trace_4 : decode b_M_trace 4 = .ok (.getfield 269, 3) := by decide +kernel
theorem d_M_trace_7 : decode b_M_trace 7 = .ok (.iconst 1, 1) := by decide +kernel
theorem d_M_trace_8 : decode b_M_trace 8 = .ok (.isub, 1) := by decide +kernel
theorem d_M_trace_9 : decode b_M_trace 9 = .ok (.i2l, 1) := by decide +kernel
theorem d_M_trace_10 : decode b_M_trace 10 = .ok (.invokestatic 58, 3) := by decide +kernel
theorem d_M_trace_13 : decode b_M_trace 13 = .ok (.ifCond .eq 12, 3) := by decide +kernel
theorem d_M_trace_16 : decode b_M_trace 16 = .ok (.aload_n 0, 1) := by decide +kernel
theorem d_M_trace_17 : decode b_M_trace 17 = .ok (.getfield 52, 3) := by decide +kernel
theorem d_M_trace_20 : decode b_M_trace 20 = .ok (.iload_n 1, 1) := by decide +kernel
theorem d_M_trace_21 : decode b_M_trace 21 = .ok (.iaload, 1) := by decide +kernel
theorem d_M_trace_22 : decode b_M_trace 22 = .ok (.goto 5, 3) := by decide +kernel
theorem d_M_trace_25 : decode b_M_trace 25 = .ok (.bipush (-3), 2) := by decide +kernel
theorem d_M_trace_27 : decode b_M_trace 27 = .ok (.ireturn, 1) := by decide +kernel
theorem d_M_spoiltLocks_0 : decode b_M_spoiltLocks 0 = .ok (.iconst 0, 1) := by decide +kernel
theorem d_M_spoiltLocks_1 : decode b_M_spoiltLocks 1 = .ok (.istore_n 1, 1) := by decide +kernel
theorem d_M_spoiltLocks_2 : decode b_M_spoiltLocks 2 = .ok (.iconst 0, 1) := by decide +kernel
theorem d_M_spoiltLocks_3 : decode b_M_spoiltLocks 3 = .ok (.istore_n 2, 1) := by decide +kernel
theorem d_M_spoiltLocks_4 : decode b_M_spoiltLocks 4 = .ok (.iload_n 2, 1) := by decide +kernel
theorem d_M_spoiltLocks_5 : decode b_M_spoiltLocks 5 = .ok (.bipush 10, 2) := by decide +kernel
theorem d_M_spoiltLocks_7 : decode b_M_spoiltLocks 7 = .ok (.if_icmp .ge 29, 3) := by decide +kernel
theorem d_M_spoiltLocks_10 : decode b_M_spoiltLocks 10 = .ok (.iload_n 1, 1) := by decide +kernel
theorem d_M_spoiltLocks_11 : decode b_M_spoiltLocks 11 = .ok (.aload_n 0, 1) := by decide +kernel
theorem d_M_spoiltLocks_12 : decode b_M_spoiltLocks 12 = .ok (.getfield 7, 3) := by decide +kernel
theorem d_M_spoiltLocks_15 : decode b_M_spoiltLocks 15 = .ok (.bipush 17, 2) := by decide +kernel
theorem d_M_spoiltLocks_17 : decode b_M_spoiltLocks 17 = .ok (.iload_n 2, 1) := by decide +kernel
theorem d_M_spoiltLocks_18 : decode b_M_spoiltLocks 18 = .ok (.iadd, 1) := by decide +kernel
theorem d_M_spoiltLocks_19 : decode b_M_spoiltLocks 19 = .ok (.iaload, 1) := by decide +kernel
theorem d_M_spoiltLocks_20 : decode b_M_spoiltLocks 20 = .ok (.ifCond .le 7, 3) := by decide +kernel
theorem d_M_spoiltLocks_23 : decode b_M_spoiltLocks 23 = .ok (.iconst 1, 1) := by decide +kernel
theorem d_M_spoiltLocks_24 : decode b_M_spoiltLocks 24 = .ok (.goto 4, 3) := by decide +kernel
theorem d_M_spoiltLocks_27 : decode b_M_spoiltLocks 27 = .ok (.iconst 0, 1) := by decide +kernel
theorem d_M_spoiltLocks_28 : decode b_M_spoiltLocks 28 = .ok (.iadd, 1) := by decide +kernel
theorem d_M_spoiltLocks_29 : decode b_M_spoiltLocks 29 = .ok (.istore_n 1, 1) := by decide +kernel
theorem d_M_spoiltLocks_30 : decode b_M_spoiltLocks 30 = .ok (.iinc 2 1, 3) := by decide +kernel
theorem d_M_spoiltLocks_33 : decode b_M_spoiltLocks 33 = .ok (.goto (-29), 3) := by decide +kernel
theorem d_M_spoiltLocks_36 : decode b_M_spoiltLocks 36 = .ok (.iload_n 1, 1) := by decide +kernel
theorem d_M_spoiltLocks_37 : decode b_M_spoiltLocks 37 = .ok (.ireturn, 1) := by decide +kernel
theorem d_M_many_0 : decode b_M_many 0 = .ok (.iload_n 1, 1) := by decide +kernel
theorem d_M_many_1 : decode b_M_many 1 = .ok (.tableswitch 86 0 6 #[43, 50, 58, 66, 71, 76, 81], 43) := by decide +kernel
theorem d_M_many_44 : decode b_M_many 44 = .ok (.aload_n 0, 1) := by decide +kernel
theorem d_M_many_45 : decode b_M_many 45 = .ok (.getfield 7, 3) := by decide +kernel
theorem d_M_many_48 : decode b_M_many 48 = .ok (.iconst 4, 1) := by decide +kernel
theorem d_M_many_49 : decode b_M_many 49 = .ok (.iaload, 1) := by decide +kernel
theorem d_M_many_50 : decode b_M_many 50 = .ok (.ireturn, 1) := by decide +kernel
theorem d_M_many_51 : decode b_M_many 51 = .ok (.aload_n 0, 1) := by decide +kernel
theorem d_M_many_52 : decode b_M_many 52 = .ok (.invokevirtual 153, 3) := by decide +kernel
theorem d_M_many_55 : decode b_M_many 55 = .ok (.invokestatic 175, 3) := by decide +kernel
theorem d_M_many_58 : decode b_M_many 58 = .ok (.ireturn, 1) := by decide +kernel
theorem d_M_many_59 : decode b_M_many 59 = .ok (.aload_n 0, 1) := by decide +kernel
theorem d_M_many_60 : decode b_M_many 60 = .ok (.invokevirtual 156, 3) := by decide +kernel
theorem d_M_many_63 : decode b_M_many 63 = .ok (.invokestatic 175, 3) := by decide +kernel
theorem d_M_many_66 : decode b_M_many 66 = .ok (.ireturn, 1) := by decide +kernel
theorem d_M_many_67 : decode b_M_many 67 = .ok (.aload_n 0, 1) := by decide +kernel
theorem d_M_many_68 : decode b_M_many 68 = .ok (.invokevirtual 294, 3) := by decide +kernel
theorem d_M_many_71 : decode b_M_many 71 = .ok (.ireturn, 1) := by decide +kernel
theorem d_M_many_72 : decode b_M_many 72 = .ok (.aload_n 0, 1) := by decide +kernel
theorem d_M_many_73 : decode b_M_many 73 = .ok (.getfield 253, 3) := by decide +kernel
theorem d_M_many_76 : decode b_M_many 76 = .ok (.ireturn, 1) := by decide +kernel
theorem d_M_many_77 : decode b_M_many 77 = .ok (.aload_n 0, 1) := by decide +kernel
theorem d_M_many_78 : decode b_M_many 78 = .ok (.getfield 199, 3) := by decide +kernel
theorem d_M_many_81 : decode b_M_many 81 = .ok (.ireturn, 1) := by decide +kernel
theorem d_M_many_82 : decode b_M_many 82 = .ok (.aload_n 0, 1) := by decide +kernel
theorem d_M_many_83 : decode b_M_many 83 = .ok (.getfield 269, 3) := by decide +kernel
theorem d_M_many_86 : decode b_M_many 86 = .ok (.ireturn, 1) := by decide +kernel
theorem d_M_many_87 : decode b_M_many 87 = .ok (.iconst (-1), 1) := by decide +kernel
theorem d_M_many_88 : decode b_M_many 88 = .ok (.ireturn, 1) := by decide +kernel
theorem d_M_keep_0 : decode b_M_keep 0 = .ok (.iconst 0, 1) := by decide +kernel
theorem d_M_keep_1 : decode b_M_keep 1 = .ok (.istore_n 1, 1) := by decide +kernel
theorem d_M_keep_2 : decode b_M_keep 2 = .ok (.iload_n 1, 1) := by decide +kernel
theorem d_M_keep_3 : decode b_M_keep 3 = .ok (.bipush 67, 2) := by decide +kernel
theorem d_M_keep_5 : decode b_M_keep 5 = .ok (.if_icmp .ge 21, 3) := by decide +kernel
theorem d_M_keep_8 : decode b_M_keep 8 = .ok (.aload_n 0, 1) := by decide +kernel
theorem d_M_keep_9 : decode b_M_keep 9 = .ok (.getfield 16, 3) := by decide +kernel
theorem d_M_keep_12 : decode b_M_keep 12 = .ok (.iload_n 1, 1) := by decide +kernel
theorem d_M_keep_13 : decode b_M_keep 13 = .ok (.aload_n 0, 1) := by decide +kernel
theorem d_M_keep_14 : decode b_M_keep 14 = .ok (.getfield 7, 3) := by decide +kernel
theorem d_M_keep_17 : decode b_M_keep 17 = .ok (.iload_n 1, 1) := by decide +kernel
theorem d_M_keep_18 : decode b_M_keep 18 = .ok (.iaload, 1) := by decide +kernel
theorem d_M_keep_19 : decode b_M_keep 19 = .ok (.iastore, 1) := by decide +kernel
theorem d_M_keep_20 : decode b_M_keep 20 = .ok (.iinc 1 1, 3) := by decide +kernel
theorem d_M_keep_23 : decode b_M_keep 23 = .ok (.goto (-21), 3) := by decide +kernel
theorem d_M_keep_26 : decode b_M_keep 26 = .ok (.aload_n 0, 1) := by decide +kernel
theorem d_M_keep_27 : decode b_M_keep 27 = .ok (.iconst 1, 1) := by decide +kernel
theorem d_M_keep_28 : decode b_M_keep 28 = .ok (.putfield 297, 3) := by decide +kernel
theorem d_M_keep_31 : decode b_M_keep 31 = .ok (.iconst 1, 1) := by decide +kernel
theorem d_M_keep_32 : decode b_M_keep 32 = .ok (.ireturn, 1) := by decide +kernel
theorem d_M_again_0 : decode b_M_again 0 = .ok (.aload_n 0, 1) := by decide +kernel
theorem d_M_again_1 : decode b_M_again 1 = .ok (.getfield 297, 3) := by decide +kernel
theorem d_M_again_4 : decode b_M_again 4 = .ok (.ifCond .ne 6, 3) := by decide +kernel
theorem d_M_again_7 : decode b_M_again 7 = .ok (.bipush (-3), 2) := by decide +kernel
theorem d_M_again_9 : decode b_M_again 9 = .ok (.ireturn, 1) := by decide +kernel
theorem d_M_again_10 : decode b_M_again 10 = .ok (.iconst 0, 1) := by decide +kernel
theorem d_M_again_11 : decode b_M_again 11 = .ok (.istore_n 1, 1) := by decide +kernel
theorem d_M_again_12 : decode b_M_again 12 = .ok (.iload_n 1, 1) := by decide +kernel
theorem d_M_again_13 : decode b_M_again 13 = .ok (.bipush 67, 2) := by decide +kernel
theorem d_M_again_15 : decode b_M_again 15 = .ok (.if_icmp .ge 21, 3) := by decide +kernel
theorem d_M_again_18 : decode b_M_again 18 = .ok (.aload_n 0, 1) := by decide +kernel
theorem d_M_again_19 : decode b_M_again 19 = .ok (.getfield 7, 3) := by decide +kernel
theorem d_M_again_22 : decode b_M_again 22 = .ok (.iload_n 1, 1) := by decide +kernel
theorem d_M_again_23 : decode b_M_again 23 = .ok (.aload_n 0, 1) := by decide +kernel
theorem d_M_again_24 : decode b_M_again 24 = .ok (.getfield 16, 3) := by decide +kernel
theorem d_M_again_27 : decode b_M_again 27 = .ok (.iload_n 1, 1) := by decide +kernel
theorem d_M_again_28 : decode b_M_again 28 = .ok (.iaload, 1) := by decide +kernel
theorem d_M_again_29 : decode b_M_again 29 = .ok (.iastore, 1) := by decide +kernel
theorem d_M_again_30 : decode b_M_again 30 = .ok (.iinc 1 1, 3) := by decide +kernel
theorem d_M_again_33 : decode b_M_again 33 = .ok (.goto (-21), 3) := by decide +kernel
theorem d_M_again_36 : decode b_M_again 36 = .ok (.aload_n 0, 1) := by decide +kernel
theorem d_M_again_37 : decode b_M_again 37 = .ok (.getfield 7, 3) := by decide +kernel
theorem d_M_again_40 : decode b_M_again 40 = .ok (.iconst 4, 1) := by decide +kernel
theorem d_M_again_41 : decode b_M_again 41 = .ok (.iaload, 1) := by decide +kernel
theorem d_M_again_42 : decode b_M_again 42 = .ok (.ireturn, 1) := by decide +kernel
