theorem d_M_hushedFor_0 : decode b_M_hushedFor 0 = .ok (.iload_n 1, 1) := by decide +kernel
theorem d_M_hushedFor_1 : decode b_M_hushedFor 1 = .ok (.i2l, 1) := by decide +kernel
theorem d_M_hushedFor_2 : decode b_M_hushedFor 2 = .ok (.lconst 1, 1) := by decide +kernel
theorem d_M_hushedFor_3 : decode b_M_hushedFor 3 = .ok (.ldc2_w 171, 3) := by decide +kernel
theorem d_M_hushedFor_6 : decode b_M_hushedFor 6 = .ok (.invokestatic 58, 3) := by decide +kernel
theorem d_M_hushedFor_9 : decode b_M_hushedFor 9 = .ok (.ifCond .eq 15, 3) := by decide +kernel
theorem d_M_hushedFor_12 : decode b_M_hushedFor 12 = .ok (.iload_n 2, 1) := by decide +kernel
theorem d_M_hushedFor_13 : decode b_M_hushedFor 13 = .ok (.i2l, 1) := by decide +kernel
theorem d_M_hushedFor_14 : decode b_M_hushedFor 14 = .ok (.lconst 0, 1) := by decide +kernel
theorem d_M_hushedFor_15 : decode b_M_hushedFor 15 = .ok (.ldc2_w 173, 3) := by decide +kernel
theorem d_M_hushedFor_18 : decode b_M_hushedFor 18 = .ok (.invokestatic 58, 3) := by decide +kernel
theorem d_M_hushedFor_21 : decode b_M_hushedFor 21 = .ok (.ifCond .ne 5, 3) := by decide +kernel
theorem d_M_hushedFor_24 : decode b_M_hushedFor 24 = .ok (.iconst (-1), 1) := by decide +kernel
theorem d_M_hushedFor_25 : decode b_M_hushedFor 25 = .ok (.ireturn, 1) := by decide +kernel
theorem d_M_hushedFor_26 : decode b_M_hushedFor 26 = .ok (.aload_n 0, 1) := by decide +kernel
theorem d_M_hushedFor_27 : decode b_M_hushedFor 27 = .ok (.invokevirtual 138, 3) := by decide +kernel
theorem d_M_hushedFor_30 : decode b_M_hushedFor 30 = .ok (.bipush (-3), 2) := by decide +kernel
theorem d_M_hushedFor_32 : decode b_M_hushedFor 32 = .ok (.istore_n 3, 1) := by decide +kernel
theorem d_M_hushedFor_33 : decode b_M_hushedFor 33 = .ok (.iconst 0, 1) := by decide +kernel
theorem d_M_hushedFor_34 : decode b_M_hushedFor 34 = .ok (.istore 4, 2) := by decide +kernel
theorem d_M_hushedFor_36 : decode b_M_hushedFor 36 = .ok (.iload 4, 2) := by decide +kernel
theorem d_M_hushedFor_38 : decode b_M_hushedFor 38 = .ok (.sipush 1024, 3) := by decide +kernel
theorem d_M_hushedFor_41 : decode b_M_hushedFor 41 = .ok (.if_icmp .ge 95, 3) := by decide +kernel
theorem d_M_hushedFor_44 : decode b_M_hushedFor 44 = .ok (.iload_n 3, 1) := by decide +kernel
theorem d_M_hushedFor_45 : decode b_M_hushedFor 45 = .ok (.ifCond .lt 18, 3) := by decide +kernel
theorem d_M_hushedFor_48 : decode b_M_hushedFor 48 = .ok (.iload 4, 2) := by decide +kernel
theorem d_M_hushedFor_50 : decode b_M_hushedFor 50 = .ok (.invokestatic 175, 3) := by decide +kernel
theorem d_M_hushedFor_53 : decode b_M_hushedFor 53 = .ok (.iload_n 3, 1) := by decide +kernel
theorem d_M_hushedFor_54 : decode b_M_hushedFor 54 = .ok (.invokestatic 175, 3) := by decide +kernel
theorem d_M_hushedFor_57 : decode b_M_hushedFor 57 = .ok (.if_icmp .lt 6, 3) := by decide +kernel
theorem d_M_hushedFor_60 : decode b_M_hushedFor 60 = .ok (.goto 70, 3) := by decide +kernel
theorem d_M_hushedFor_63 : decode b_M_hushedFor 63 = .ok (.iconst 0, 1) := by decide +kernel
theorem d_M_hushedFor_64 : decode b_M_hushedFor 64 = .ok (.istore 5, 2) := by decide +kernel
theorem d_M_hushedFor_66 : decode b_M_hushedFor 66 = .ok (.iload 5, 2) := by decide +kernel
theorem d_M_hushedFor_68 : decode b_M_hushedFor 68 = .ok (.bipush 10, 2) := by decide +kernel
theorem d_M_hushedFor_70 : decode b_M_hushedFor 70 = .ok (.if_icmp .ge 44, 3) := by decide +kernel
theorem d_M_hushedFor_73 : decode b_M_hushedFor 73 = .ok (.aload_n 0, 1) := by decide +kernel
theorem d_M_hushedFor_74 : decode b_M_hushedFor 74 = .ok (.getfield 7, 3) := by decide +kernel
theorem d_M_hushedFor_77 : decode b_M_hushedFor 77 = .ok (.bipush 7, 2) := by decide +kernel
theorem d_M_hushedFor_79 : decode b_M_hushedFor 79 = .ok (.iload 5, 2) := by decide +kernel
theorem d_M_hushedFor_81 : decode b_M_hushedFor 81 = .ok (.iadd, 1) := by decide +kernel
theorem d_M_hushedFor_82 : decode b_M_hushedFor 82 = .ok (.iload 4, 2) := by decide +kernel
theorem d_M_hushedFor_84 : decode b_M_hushedFor 84 = .ok (.iload 5, 2) := by decide +kernel
theorem d_M_hushedFor_86 : decode b_M_hushedFor 86 = .ok (.ishr, 1) := by decide +kernel
theorem d_M_hushedFor_87 : decode b_M_hushedFor 87 = .ok (.iconst 1, 1) := by decide +kernel
theorem d_M_hushedFor_88 : decode b_M_hushedFor 88 = .ok (.iand, 1) := by decide +kernel
theorem d_M_hushedFor_89 : decode b_M_hushedFor 89 = .ok (.iconst 1, 1) := by decide +kernel
theorem d_M_hushedFor_90 : decode b_M_hushedFor 90 = .ok (.if_icmp .ne 7, 3) := by decide +kernel
theorem d_M_hushedFor_93 : decode b_M_hushedFor 93 = .ok (.iconst 0, 1) := by decide +kernel
theorem d_M_hushedFor_94 : decode b_M_hushedFor 94 = .ok (.goto 13, 3) := by decide +kernel
theorem d_M_hushedFor_97 : decode b_M_hushedFor 97 = .ok (.aload_n 0, 1) := by decide +kernel
theorem d_M_hushedFor_98 : decode b_M_hushedFor 98 = .ok (.getfield 7, 3) := by decide +kernel
theorem d_M_hushedFor_101 : decode b_M_hushedFor 101 = .ok (.bipush 7, 2) := by decide +kernel
theorem d_M_hushedFor_103 : decode b_M_hushedFor 103 = .ok (.iload 5, 2) := by decide +kernel
theorem d_M_hushedFor_105 : decode b_M_hushedFor 105 = .ok (.iadd, 1) := by decide +kernel
theorem d_M_hushedFor_106 : decode b_M_hushedFor 106 = .ok (.iaload, 1) := by decide +kernel
theorem d_M_hushedFor_107 : decode b_M_hushedFor 107 = .ok (.iastore, 1) := by decide +kernel
theorem d_M_hushedFor_108 : decode b_M_hushedFor 108 = .ok (.iinc 5 1, 3) := by decide +kernel
theorem d_M_hushedFor_111 : decode b_M_hushedFor 111 = .ok (.goto (-45), 3) := by decide +kernel
theorem d_M_hushedFor_114 : decode b_M_hushedFor 114 = .ok (.aload_n 0, 1) := by decide +kernel
theorem d_M_hushedFor_115 : decode b_M_hushedFor 115 = .ok (.iload_n 1, 1) := by decide +kernel
theorem d_M_hushedFor_116 : decode b_M_hushedFor 116 = .ok (.invokevirtual 141, 3) := by decide +kernel
theorem d_M_hushedFor_119 : decode b_M_hushedFor 119 = .ok (.iload_n 2, 1) := by decide +kernel
theorem d_M_hushedFor_120 : decode b_M_hushedFor 120 = .ok (.if_icmp .lt 8, 3) := by decide +kernel
theorem d_M_hushedFor_123 : decode b_M_hushedFor 123 = .ok (.iload 4, 2) := by decide +kernel
theorem d_M_hushedFor_125 : decode b_M_hushedFor 125 = .ok (.goto 4, 3) := by decide +kernel
theorem d_M_hushedFor_128 : decode b_M_hushedFor 128 = .ok (.iload_n 3, 1) := by decide +kernel
theorem d_M_hushedFor_129 : decode b_M_hushedFor 129 = .ok (.istore_n 3, 1) := by decide +kernel
theorem d_M_hushedFor_130 : decode b_M_hushedFor 130 = .ok (.iinc 4 1, 3) := by decide +kernel
theorem d_M_hushedFor_133 : decode b_M_hushedFor 133 = .ok (.goto (-97), 3) := by decide +kernel
theorem d_M_hushedFor_136 : decode b_M_hushedFor 136 = .ok (.iload_n 3, 1) := by decide +kernel
theorem d_M_hushedFor_137 : decode b_M_hushedFor 137 = .ok (.ireturn, 1) := by decide +kernel
theorem d_M_holdFor_0 : decode b_M_holdFor 0 = .ok (.iload_n 1, 1) := by decide +kernel
theorem d_M_holdFor_1 : decode b_M_holdFor 1 = .ok (.invokestatic 168, 3) := by decide +kernel
theorem d_M_holdFor_4 : decode b_M_holdFor 4 = .ok (.ifCond .ne 5, 3) := by decide +kernel
theorem d_M_holdFor_7 : decode b_M_holdFor 7 = .ok (.iconst (-1), 1) := by decide +kernel
theorem d_M_holdFor_8 : decode b_M_holdFor 8 = .ok (.ireturn, 1) := by decide +kernel
theorem d_M_holdFor_9 : decode b_M_holdFor 9 = .ok (.aload_n 0, 1) := by decide +kernel
theorem d_M_holdFor_10 : decode b_M_holdFor 10 = .ok (.invokevirtual 138, 3) := by decide +kernel
theorem d_M_holdFor_13 : decode b_M_holdFor 13 = .ok (.bipush (-3), 2) := by decide +kernel
theorem d_M_holdFor_15 : decode b_M_holdFor 15 = .ok (.istore_n 2, 1) := by decide +kernel
theorem d_M_holdFor_16 : decode b_M_holdFor 16 = .ok (.aload_n 0, 1) := by decide +kernel
theorem d_M_holdFor_17 : decode b_M_holdFor 17 = .ok (.iload_n 1, 1) := by decide +kernel
theorem d_M_holdFor_18 : decode b_M_holdFor 18 = .ok (.invokevirtual 141, 3) := by decide +kernel
theorem d_M_holdFor_21 : decode b_M_holdFor 21 = .ok (.istore_n 3, 1) := by decide +kernel
theorem d_M_holdFor_22 : decode b_M_holdFor 22 = .ok (.iconst 0, 1) := by decide +kernel
theorem d_M_holdFor_23 : decode b_M_holdFor 23 = .ok (.istore 4, 2) := by decide +kernel
theorem d_M_holdFor_25 : decode b_M_holdFor 25 = .ok (.iload 4, 2) := by decide +kernel
theorem d_M_holdFor_27 : decode b_M_holdFor 27 = .ok (.aload_n 0, 1) := by decide +kernel
theorem d_M_holdFor_28 : decode b_M_holdFor 28 = .ok (.getfield 7, 3) := by decide +kernel
theorem d_M_holdFor_31 : decode b_M_holdFor 31 = .ok (.iconst 4, 1) := by decide +kernel
theorem d_M_holdFor_32 : decode b_M_holdFor 32 = .ok (.iaload, 1) := by decide +kernel
theorem d_M_holdFor_33 : decode b_M_holdFor 33 = .ok (.if_icmp .ge 34, 3) := by decide +kernel
theorem d_M_holdFor_36 : decode b_M_holdFor 36 = .ok (.aload_n 0, 1) := by decide +kernel
theorem d_M_holdFor_37 : decode b_M_holdFor 37 = .ok (.iload 4, 2) := by decide +kernel
theorem d_M_holdFor_39 : decode b_M_holdFor 39 = .ok (.putfield 19, 3) := by decide +kernel
theorem d_M_holdFor_42 : decode b_M_holdFor 42 = .ok (.aload_n 0, 1) := by decide +kernel
theorem d_M_holdFor_43 : decode b_M_holdFor 43 = .ok (.iload_n 1, 1) := by decide +kernel
theorem d_M_holdFor_44 : decode b_M_holdFor 44 = .ok (.invokevirtual 141, 3) := by decide +kernel
theorem d_M_holdFor_47 : decode b_M_holdFor 47 = .ok (.istore 5, 2) := by decide +kernel
theorem d_M_holdFor_49 : decode b_M_holdFor 49 = .ok (.iload 5, 2) := by decide +kernel
theorem d_M_holdFor_51 : decode b_M_holdFor 51 = .ok (.iload_n 3, 1) := by decide +kernel
theorem d_M_holdFor_52 : decode b_M_holdFor 52 = .ok (.if_icmp .le 9, 3) := by decide +kernel
theorem d_M_holdFor_55 : decode b_M_holdFor 55 = .ok (.iload 4, 2) := by decide +kernel
theorem d_M_holdFor_57 : decode b_M_holdFor 57 = .ok (.istore_n 2, 1) := by decide +kernel
theorem d_M_holdFor_58 : decode b_M_holdFor 58 = .ok (.iload 5, 2) := by decide +kernel
theorem d_M_holdFor_60 : decode b_M_holdFor 60 = .ok (.istore_n 3, 1) := by decide +kernel
theorem d_M_holdFor_61 : decode b_M_holdFor 61 = .ok (.iinc 4 1, 3) := by decide +kernel
theorem d_M_holdFor_64 : decode b_M_holdFor 64 = .ok (.goto (-39), 3) := by decide +kernel
theorem d_M_holdFor_67 : decode b_M_holdFor 67 = .ok (.aload_n 0, 1) := by decide +kernel
theorem d_M_holdFor_68 : decode b_M_holdFor 68 = .ok (.iconst (-1), 1) := by decide +kernel
theorem d_M_holdFor_69 : decode b_M_holdFor 69 = .ok (.putfield 19, 3) := by decide +kernel
theorem d_M_holdFor_72 : decode b_M_holdFor 72 = .ok (.iload_n 2, 1) := by decide +kernel
theorem d_M_holdFor_73 : decode b_M_holdFor 73 = .ok (.ireturn, 1) := by decide +kernel
theorem d_M_isSheet_0 : decode b_M_isSheet 0 = .ok (.iload_n 0, 1) := by decide +kernel
theorem d_M_isSheet_1 : decode b_M_isSheet 1 = .ok (.i2l, 1) := by decide +kernel
theorem d_M_isSheet_2 : decode b_M_isSheet 2 = .ok (.lconst 0, 1) := by decide +kernel
theorem d_M_isSheet_3 : decode b_M_isSheet 3 = .ok (.ldc2_w 98, 3) := by decide +kernel
theorem d_M_isSheet_6 : decode b_M_isSheet 6 = .ok (.invokestatic 58, 3) := by decide +kernel
theorem d_M_isSheet_9 : decode b_M_isSheet 9 = .ok (.ireturn, 1) := by decide +kernel
theorem d_M_fits_0 : decode b_M_fits 0 = .ok (.iload_n 1, 1) := by decide +kernel
theorem d_M_fits_1 : decode b_M_fits 1 = .ok (.invokestatic 178, 3) := by decide +kernel
theorem d_M_fits_4 : decode b_M_fits 4 = .ok (.ifCond .eq 21, 3) := by decide +kernel
theorem d_M_fits_7 : decode b_M_fits 7 = .ok (.aload_n 0, 1) := by decide +kernel
theorem d_M_fits_8 : decode b_M_fits 8 = .ok (.iload_n 2, 1) := by decide +kernel
theorem d_M_fits_9 : decode b_M_fits 9 = .ok (.invokevirtual 118, 3) := by decide +kernel
theorem d_M_fits_12 : decode b_M_fits 12 = .ok (.ifCond .eq 13, 3) := by decide +kernel
theorem d_M_fits_15 : decode b_M_fits 15 = .ok (.iload_n 3, 1) := by decide +kernel
theorem d_M_fits_16 : decode b_M_fits 16 = .ok (.i2l, 1) := by decide +kernel
theorem d_M_fits_17 : decode b_M_fits 17 = .ok (.lconst 0, 1) := by decide +kernel
theorem d_M_fits_18 : decode b_M_fits 18 = .ok (.lconst 1, 1) := by decide +kernel
theorem d_M_fits_19 : decode b_M_fits 19 = .ok (.invokestatic 58, 3) := by decide +kernel
theorem d_M_fits_22 : decode b_M_fits 22 = .ok (.ifCond .ne 5, 3) := by decide +kernel
theorem d_M_fits_25 : decode b_M_fits 25 = .ok (.iconst (-1), 1) := by decide +kernel
theorem d_M_fits_26 : decode b_M_fits 26 = .ok (.ireturn, 1) := by decide +kernel
theorem d_M_fits_27 : decode b_M_fits 27 = .ok (.aload_n 0, 1) := by decide +kernel
theorem d_M_fits_28 : decode b_M_fits 28 = .ok (.getfield 33, 3) := by decide +kernel
theorem d_M_fits_31 : decode b_M_fits 31 = .ok (.iload_n 1, 1) := by decide +kernel
theorem d_M_fits_32 : decode b_M_fits 32 = .ok (.iaload, 1) := by decide +kernel
theorem d_M_fits_33 : decode b_M_fits 33 = .ok (.ifCond .ne 6, 3) := by decide +kernel
theorem d_M_fits_36 : decode b_M_fits 36 = .ok (.bipush (-11), 2) := by decide +kernel
theorem d_M_fits_38 : decode b_M_fits 38 = .ok (.ireturn, 1) := by decide +kernel
theorem d_M_fits_39 : decode b_M_fits 39 = .ok (.aload_n 0, 1) := by decide +kernel
theorem d_M_fits_40 : decode b_M_fits 40 = .ok (.invokevirtual 138, 3) := by decide +kernel
theorem d_M_fits_43 : decode b_M_fits 43 = .ok (.iconst 0, 1) := by decide +kernel
theorem d_M_fits_44 : decode b_M_fits 44 = .ok (.istore 4, 2) := by decide +kernel
theorem d_M_fits_46 : decode b_M_fits 46 = .ok (.bipush (-3), 2) := by decide +kernel
theorem d_M_fits_48 : decode b_M_fits 48 = .ok (.istore 5, 2) := by decide +kernel
theorem d_M_fits_50 : decode b_M_fits 50 = .ok (.bipush 99, 2) := by decide +kernel
theorem d_M_fits_52 : decode b_M_fits 52 = .ok (.istore 6, 2) := by decide +kernel
theorem d_M_fits_54 : decode b_M_fits 54 = .ok (.iload 6, 2) := by decide +kernel
theorem d_M_fits_56 : decode b_M_fits 56 = .ok (.ifCond .lt 125, 3) := by decide +kernel
theorem d_M_fits_59 : decode b_M_fits 59 = .ok (.aload_n 0, 1) := by decide +kernel
theorem d_M_fits_60 : decode b_M_fits 60 = .ok (.iload_n 2, 1) := by decide +kernel
theorem d_M_fits_61 : decode b_M_fits 61 = .ok (.iconst 1, 1) := by decide +kernel
theorem d_M_fits_62 : decode b_M_fits 62 = .ok (.iload 6, 2) := by decide +kernel
theorem d_M_fits_64 : decode b_M_fits 64 = .ok (.invokevirtual 72, 3) := by decide +kernel
theorem d_M_fits_67 : decode b_M_fits 67 = .ok (.iconst 1, 1) := by decide +kernel
theorem d_M_fits_68 : decode b_M_fits 68 = .ok (.istore 7, 2) := by decide +kernel
theorem d_M_fits_70 : decode b_M_fits 70 = .ok (.iconst 0, 1) := by decide +kernel
theorem d_M_fits_71 : decode b_M_fits 71 = .ok (.istore 8, 2) := by decide +kernel
theorem d_M_fits_73 : decode b_M_fits 73 = .ok (.iload 8, 2) := by decide +kernel
theorem d_M_fits_75 : decode b_M_fits 75 = .ok (.aload_n 0, 1) := by decide +kernel
theorem d_M_fits_76 : decode b_M_fits 76 = .ok (.getfield 36, 3) := by decide +kernel
theorem d_M_fits_79 : decode b_M_fits 79 = .ok (.iload_n 1, 1) := by decide +kernel
theorem d_M_fits_80 : decode b_M_fits 80 = .ok (.iaload, 1) := by decide +kernel
theorem d_M_fits_81 : decode b_M_fits 81 = .ok (.if_icmp .ge 61, 3) := by decide +kernel
theorem d_M_fits_84 : decode b_M_fits 84 = .ok (.iload 7, 2) := by decide +kernel
theorem d_M_fits_86 : decode b_M_fits 86 = .ok (.ifCond .eq 56, 3) := by decide +kernel
theorem d_M_fits_89 : decode b_M_fits 89 = .ok (.aload_n 0, 1) := by decide +kernel
theorem d_M_fits_90 : decode b_M_fits 90 = .ok (.invokevirtual 95, 3) := by decide +kernel
theorem d_M_fits_93 : decode b_M_fits 93 = .ok (.aload_n 0, 1) := by decide +kernel
theorem d_M_fits_94 : decode b_M_fits 94 = .ok (.getfield 39, 3) := by decide +kernel
theorem d_M_fits_97 : decode b_M_fits 97 = .ok (.bipush 40, 2) := by decide +kernel
theorem d_M_fits_99 : decode b_M_fits 99 = .ok (.iload_n 1, 1) := by decide +kernel
theorem d_M_fits_100 : decode b_M_fits 100 = .ok (.imul, 1) := by decide +kernel
theorem d_M_fits_101 : decode b_M_fits 101 = .ok (.iload 8, 2) := by decide +kernel
theorem d_M_fits_103 : decode b_M_fits 103 = .ok (.iadd, 1) := by decide +kernel
theorem d_M_fits_104 : decode b_M_fits 104 = .ok (.laload, 1) := by decide +kernel
theorem d_M_fits_105 : decode b_M_fits 105 = .ok (.lstore 9, 2) := by decide +kernel
theorem d_M_fits_107 : decode b_M_fits 107 = .ok (.lload 9, 2) := by decide +kernel
theorem d_M_fits_109 : decode b_M_fits 109 = .ok (.ldc2_w 181, 3) := by decide +kernel
theorem d_M_fits_112 : decode b_M_fits 112 = .ok (.lcmp, 1) := by decide +kernel
theorem d_M_fits_113 : decode b_M_fits 113 = .ok (.ifCond .eq 16, 3) := by decide +kernel
theorem d_M_fits_116 : decode b_M_fits 116 = .ok (.lload 9, 2) := by decide +kernel
theorem d_M_fits_118 : decode b_M_fits 118 = .ok (.aload_n 0, 1) := by decide +kernel
theorem d_M_fits_119 : decode b_M_fits 119 = .ok (.iload_n 2, 1) := by decide +kernel
theorem d_M_fits_120 : decode b_M_fits 120 = .ok (.iconst 1, 1) := by decide +kernel
theorem d_M_fits_121 : decode b_M_fits 121 = .ok (.invokevirtual 64, 3) := by decide +kernel
theorem d_M_fits_124 : decode b_M_fits 124 = .ok (.i2l, 1) := by decide +kernel
theorem d_M_fits_125 : decode b_M_fits 125 = .ok (.lcmp, 1) := by decide +kernel
theorem d_M_fits_126 : decode b_M_fits 126 = .ok (.ifCond .ne 7, 3) := by decide +kernel
theorem d_M_fits_129 : decode b_M_fits 129 = .ok (.iconst 1, 1) := by decide +kernel
theorem d_M_fits_130 : decode b_M_fits 130 = .ok (.goto 4, 3) := by decide +kernel
theorem d_M_fits_133 : decode b_M_fits 133 = .ok (.iconst 0, 1) := by decide +kernel
theorem d_M_fits_134 : decode b_M_fits 134 = .ok (.istore 7, 2) := by decide +kernel
theorem d_M_fits_136 : decode b_M_fits 136 = .ok (.iinc 8 1, 3) := by decide +kernel
theorem d_M_fits_139 : decode b_M_fits 139 = .ok (.goto (-66), 3) := by decide +kernel
theorem d_M_fits_142 : decode b_M_fits 142 = .ok (.aload_n 0, 1) := by decide +kernel
theorem d_M_fits_143 : decode b_M_fits 143 = .ok (.invokevirtual 147, 3) := by decide +kernel
theorem d_M_fits_146 : decode b_M_fits 146 = .ok (.iload 4, 2) := by decide +kernel
theorem d_M_fits_148 : decode b_M_fits 148 = .ok (.iload 7, 2) := by decide +kernel
theorem d_M_fits_150 : decode b_M_fits 150 = .ok (.ifCond .eq 7, 3) := by decide +kernel
theorem d_M_fits_153 : decode b_M_fits 153 = .ok (.iconst 1, 1) := by decide +kernel
theorem d_M_fits_154 : decode b_M_fits 154 = .ok (.goto 4, 3) := by decide +kernel
theorem d_M_fits_157 : decode b_M_fits 157 = .ok (.iconst 0, 1) := by decide +kernel
theorem d_M_fits_158 : decode b_M_fits 158 = .ok (.iadd, 1) := by decide +kernel
theorem d_M_fits_159 : decode b_M_fits 159 = .ok (.istore 4, 2) := by decide +kernel
theorem d_M_fits_161 : decode b_M_fits 161 = .ok (.iload 7, 2) := by decide +kernel
theorem d_M_fits_163 : decode b_M_fits 163 = .ok (.ifCond .eq 8, 3) := by decide +kernel
theorem d_M_fits_166 : decode b_M_fits 166 = .ok (.iload 6, 2) := by decide +kernel
theorem d_M_fits_168 : decode b_M_fits 168 = .ok (.goto 5, 3) := by decide +kernel
theorem d_M_fits_171 : decode b_M_fits 171 = .ok (.iload 5, 2) := by decide +kernel
theorem d_M_fits_173 : decode b_M_fits 173 = .ok (.istore 5, 2) := by decide +kernel
theorem d_M_fits_175 : decode b_M_fits 175 = .ok (.iinc 6 (-1), 3) := by decide +kernel
theorem d_M_fits_178 : decode b_M_fits 178 = .ok (.goto (-124), 3) := by decide +kernel
theorem d_M_fits_181 : decode b_M_fits 181 = .ok (.iload_n 3, 1) := by decide +kernel
theorem d_M_fits_182 : decode b_M_fits 182 = .ok (.ifCond .ne 8, 3) := by decide +kernel
theorem d_M_fits_185 : decode b_M_fits 185 = .ok (.iload 4, 2) := by decide +kernel
theorem d_M_fits_187 : decode b_M_fits 187 = .ok (.goto 5, 3) := by decide +kernel
theorem d_M_fits_190 : decode b_M_fits 190 = .ok (.iload 5, 2) := by decide +kernel
theorem d_M_fits_192 : decode b_M_fits 192 = .ok (.ireturn, 1) := by decide +kernel
theorem d_M_common_0 : decode b_M_common 0 = .ok (.lload_n 0, 1) := by decide +kernel
theorem d_M_common_1 : decode b_M_common 1 = .ok (.lstore 4, 2) := by decide +kernel
theorem d_M_common_3 : decode b_M_common 3 = .ok (.lload_n 2, 1) := by decide +kernel
theorem d_M_common_4 : decode b_M_common 4 = .ok (.lstore 6, 2) := by decide +kernel
theorem d_M_common_6 : decode b_M_common 6 = .ok (.lload 6, 2) := by decide +kernel
theorem d_M_common_8 : decode b_M_common 8 = .ok (.lconst 0, 1) := by decide +kernel
theorem d_M_common_9 : decode b_M_common 9 = .ok (.lcmp, 1) := by decide +kernel
theorem d_M_common_10 : decode b_M_common 10 = .ok (.ifCond .eq 21, 3) := by decide +kernel
theorem d_M_common_13 : decode b_M_common 13 = .ok (.lload 4, 2) := by decide +kernel
theorem d_M_common_15 : decode b_M_common 15 = .ok (.lload 6, 2) := by decide +kernel
theorem d_M_common_17 : decode b_M_common 17 = .ok (.lrem, 1) := by decide +kernel
theorem d_M_common_18 : decode b_M_common 18 = .ok (.lstore 8, 2) := by decide +kernel
theorem d_M_common_20 : decode b_M_common 20 = .ok (.lload 6, 2) := by decide +kernel
theorem d_M_common_22 : decode b_M_common 22 = .ok (.lstore 4, 2) := by decide +kernel
theorem d_M_common_24 : decode b_M_common 24 = .ok (.lload 8, 2) := by decide +kernel
theorem d_M_common_26 : decode b_M_common 26 = .ok (.lstore 6, 2) := by decide +kernel
theorem d_M_common_28 : decode b_M_common 28 = .ok (.goto (-22), 3) := by decide +kernel
theorem d_M_common_31 : decode b_M_common 31 = .ok (.lload 4, 2) := by decide +kernel
theorem d_M_common_33 : decode b_M_common 33 = .ok (.lreturn, 1) := by decide +kernel
theorem d_M_partOf_0 : decode b_M_partOf 0 = .ok (.iload 4, 2) := by decide +kernel
theorem d_M_partOf_2 : decode b_M_partOf 2 = .ok (.ifCond .ne 7, 3) := by decide +kernel
theorem d_M_partOf_5 : decode b_M_partOf 5 = .ok (.lload_n 0, 1) := by decide +kernel
theorem d_M_partOf_6 : decode b_M_partOf 6 = .ok (.goto 4, 3) := by decide +kernel
theorem d_M_partOf_9 : decode b_M_partOf 9 = .ok (.lload_n 2, 1) := by decide +kernel
theorem d_M_partOf_10 : decode b_M_partOf 10 = .ok (.lload_n 0, 1) := by decide +kernel
theorem d_M_partOf_11 : decode b_M_partOf 11 = .ok (.lload_n 2, 1) := by decide +kernel
theorem d_M_partOf_12 : decode b_M_partOf 12 = .ok (.invokestatic 183, 3) := by decide +kernel
theorem d_M_partOf_15 : decode b_M_partOf 15 = .ok (.ldiv, 1) := by decide +kernel
theorem d_M_partOf_16 : decode b_M_partOf 16 = .ok (.lreturn, 1) := by decide +kernel
theorem d_M_ways_0 : decode b_M_ways 0 = .ok (.lconst 1, 1) := by decide +kernel
theorem d_M_ways_1 : decode b_M_ways 1 = .ok (.lstore_n 2, 1) := by decide +kernel
theorem d_M_ways_2 : decode b_M_ways 2 = .ok (.iconst 1, 1) := by decide +kernel
theorem d_M_ways_3 : decode b_M_ways 3 = .ok (.istore 4, 2) := by decide +kernel
theorem d_M_ways_5 : decode b_M_ways 5 = .ok (.iload 4, 2) := by decide +kernel
theorem d_M_ways_7 : decode b_M_ways 7 = .ok (.iload_n 1, 1) := by decide +kernel
theorem d_M_ways_8 : decode b_M_ways 8 = .ok (.if_icmp .gt 23, 3) := by decide +kernel
theorem d_M_ways_11 : decode b_M_ways 11 = .ok (.lload_n 2, 1) := by decide +kernel
theorem d_M_ways_12 : decode b_M_ways 12 = .ok (.iload_n 0, 1) := by decide +kernel
theorem d_M_ways_13 : decode b_M_ways 13 = .ok (.iload_n 1, 1) := by decide +kernel
theorem d_M_ways_14 : decode b_M_ways 14 = .ok (.isub, 1) := by decide +kernel
theorem d_M_ways_15 : decode b_M_ways 15 = .ok (.iload 4, 2) := by decide +kernel
theorem d_M_ways_17 : decode b_M_ways 17 = .ok (.iadd, 1) := by decide +kernel
theorem d_M_ways_18 : decode b_M_ways 18 = .ok (.i2l, 1) := by decide +kernel
theorem d_M_ways_19 : decode b_M_ways 19 = .ok (.lmul, 1) := by decide +kernel
theorem d_M_ways_20 : decode b_M_ways 20 = .ok (.iload 4, 2) := by decide +kernel
theorem d_M_ways_22 : decode b_M_ways 22 = .ok (.i2l, 1) := by decide +kernel
theorem d_M_ways_23 : decode b_M_ways 23 = .ok (.ldiv, 1) := by decide +kernel
theorem d_M_ways_24 : decode b_M_ways 24 = .ok (.lstore_n 2, 1) := by decide +kernel
theorem d_M_ways_25 : decode b_M_ways 25 = .ok (.iinc 4 1, 3) := by decide +kernel
theorem d_M_ways_28 : decode b_M_ways 28 = .ok (.goto (-23), 3) := by decide +kernel
theorem d_M_ways_31 : decode b_M_ways 31 = .ok (.lload_n 2, 1) := by decide +kernel
theorem d_M_ways_32 : decode b_M_ways 32 = .ok (.lreturn, 1) := by decide +kernel
theorem d_M_odds_0 : decode b_M_odds 0 = .ok (.iload_n 1, 1) := by decide +kernel
theorem d_M_odds_1 : decode b_M_odds 1 = .ok (.i2l, 1) := by decide +kernel
theorem d_M_odds_2 : decode b_M_odds 2 = .ok (.lconst 0, 1) := by decide +kernel
theorem d_M_odds_3 : decode b_M_odds 3 = .ok (.ldc2_w 187, 3) := by decide +kernel
theorem d_M_odds_6 : decode b_M_odds 6 = .ok (.invokestatic 58, 3) := by decide +kernel
theorem d_M_odds_9 : decode b_M_odds 9 = .ok (.ifCond .eq 24, 3) := by decide +kernel
theorem d_M_odds_12 : decode b_M_odds 12 = .ok (.iload_n 2, 1) := by decide +kernel
theorem d_M_odds_13 : decode b_M_odds 13 = .ok (.i2l, 1) := by decide +kernel
theorem d_M_odds_14 : decode b_M_odds 14 = .ok (.lconst 0, 1) := by decide +kernel
theorem d_M_odds_15 : decode b_M_odds 15 = .ok (.iload_n 1, 1) := by decide +kernel
theorem d_M_odds_16 : decode b_M_odds 16 = .ok (.i2l, 1) := by decide +kernel
theorem d_M_odds_17 : decode b_M_odds 17 = .ok (.invokestatic 58, 3) := by decide +kernel
theorem d_M_odds_20 : decode b_M_odds 20 = .ok (.ifCond .eq 13, 3) := by decide +kernel
theorem d_M_odds_23 : decode b_M_odds 23 = .ok (.iload_n 3, 1) := by decide +kernel
theorem d_M_odds_24 : decode b_M_odds 24 = .ok (.i2l, 1) := by decide +kernel
theorem d_M_odds_25 : decode b_M_odds 25 = .ok (.lconst 0, 1) := by decide +kernel
theorem d_M_odds_26 : decode b_M_odds 26 = .ok (.lconst 1, 1) := by decide +kernel
theorem d_M_odds_27 : decode b_M_odds 27 = .ok (.invokestatic 58, 3) := by decide +kernel
theorem d_M_odds_30 : decode b_M_odds 30 = .ok (.ifCond .ne 7, 3) := by decide +kernel
theorem d_M_odds_33 : decode b_M_odds 33 = .ok (.ldc2_w 181, 3) := by decide +kernel
theorem d_M_odds_36 : decode b_M_odds 36 = .ok (.lreturn, 1) := by decide +kernel
theorem d_M_odds_37 : decode b_M_odds 37 = .ok (.lconst 1, 1) := by decide +kernel
theorem d_M_odds_38 : decode b_M_odds 38 = .ok (.lstore 4, 2) := by decide +kernel
theorem d_M_odds_40 : decode b_M_odds 40 = .ok (.lconst 1, 1) := by decide +kernel
theorem d_M_odds_41 : decode b_M_odds 41 = .ok (.lstore 6, 2) := by decide +kernel
theorem d_M_odds_43 : decode b_M_odds 43 = .ok (.iconst 0, 1) := by decide +kernel
theorem d_M_odds_44 : decode b_M_odds 44 = .ok (.istore 8, 2) := by decide +kernel
theorem d_M_odds_46 : decode b_M_odds 46 = .ok (.iload 8, 2) := by decide +kernel
theorem d_M_odds_48 : decode b_M_odds 48 = .ok (.iload_n 1, 1) := by decide +kernel
theorem d_M_odds_49 : decode b_M_odds 49 = .ok (.if_icmp .ge 48, 3) := by decide +kernel
theorem d_M_odds_52 : decode b_M_odds 52 = .ok (.lload 4, 2) := by decide +kernel
theorem d_M_odds_54 : decode b_M_odds 54 = .ok (.iload 8, 2) := by decide +kernel
theorem d_M_odds_56 : decode b_M_odds 56 = .ok (.iload_n 2, 1) := by decide +kernel
theorem d_M_odds_57 : decode b_M_odds 57 = .ok (.if_icmp .ge 13, 3) := by decide +kernel
theorem d_M_odds_60 : decode b_M_odds 60 = .ok (.aload_n 0, 1) := by decide +kernel
theorem d_M_odds_61 : decode b_M_odds 61 = .ok (.getfield 7, 3) := by decide +kernel
theorem d_M_odds_64 : decode b_M_odds 64 = .ok (.iconst 3, 1) := by decide +kernel
theorem d_M_odds_65 : decode b_M_odds 65 = .ok (.iaload, 1) := by decide +kernel
theorem d_M_odds_66 : decode b_M_odds 66 = .ok (.i2l, 1) := by decide +kernel
theorem d_M_odds_67 : decode b_M_odds 67 = .ok (.goto 13, 3) := by decide +kernel
theorem d_M_odds_70 : decode b_M_odds 70 = .ok (.bipush 100, 2) := by decide +kernel
theorem d_M_odds_72 : decode b_M_odds 72 = .ok (.aload_n 0, 1) := by decide +kernel
theorem d_M_odds_73 : decode b_M_odds 73 = .ok (.getfield 7, 3) := by decide +kernel
theorem d_M_odds_76 : decode b_M_odds 76 = .ok (.iconst 3, 1) := by decide +kernel
theorem d_M_odds_77 : decode b_M_odds 77 = .ok (.iaload, 1) := by decide +kernel
theorem d_M_odds_78 : decode b_M_odds 78 = .ok (.isub, 1) := by decide +kernel
theorem d_M_odds_79 : decode b_M_odds 79 = .ok (.i2l, 1) := by decide +kernel
theorem d_M_odds_80 : decode b_M_odds 80 = .ok (.lmul, 1) := by decide +kernel
theorem d_M_odds_81 : decode b_M_odds 81 = .ok (.lstore 4, 2) := by decide +kernel
theorem d_M_odds_83 : decode b_M_odds 83 = .ok (.lload 6, 2) := by decide +kernel
theorem d_M_odds_85 : decode b_M_odds 85 = .ok (.ldc2_w 189, 3) := by decide +kernel
theorem d_M_odds_88 : decode b_M_odds 88 = .ok (.lmul, 1) := by decide +kernel
theorem d_M_odds_89 : decode b_M_odds 89 = .ok (.lstore 6, 2) := by decide +kernel
theorem d_M_odds_91 : decode b_M_odds 91 = .ok (.iinc 8 1, 3) := by decide +kernel
theorem d_M_odds_94 : decode b_M_odds 94 = .ok (.goto (-48), 3) := by decide +kernel
theorem d_M_odds_97 : decode b_M_odds 97 = .ok (.lload 4, 2) := by decide +kernel
theorem d_M_odds_99 : decode b_M_odds 99 = .ok (.iload_n 1, 1) := by decide +kernel
theorem d_M_odds_100 : decode b_M_odds 100 = .ok (.iload_n 2, 1) := by decide +kernel
theorem d_M_odds_101 : decode b_M_odds 101 = .ok (.invokestatic 191, 3) := by decide +kernel
theorem d_M_odds_104 : decode b_M_odds 104 = .ok (.lmul, 1) := by decide +kernel
theorem d_M_odds_105 : decode b_M_odds 105 = .ok (.lload 6, 2) := by decide +kernel
theorem d_M_odds_107 : decode b_M_odds 107 = .ok (.iload_n 3, 1) := by decide +kernel
theorem d_M_odds_108 : decode b_M_odds 108 = .ok (.invokestatic 195, 3) := by decide +kernel
theorem d_M_odds_111 : decode b_M_odds 111 = .ok (.lreturn, 1) := by decide +kernel
theorem d_M_hope_0 : decode b_M_hope 0 = .ok (.iload_n 1, 1) := by decide +kernel
theorem d_M_hope_1 : decode b_M_hope 1 = .ok (.i2l, 1) := by decide +kernel
theorem d_M_hope_2 : decode b_M_hope 2 = .ok (.lconst 0, 1) := by decide +kernel
theorem d_M_hope_3 : decode b_M_hope 3 = .ok (.ldc2_w 100, 3) := by decide +kernel
theorem d_M_hope_6 : decode b_M_hope 6 = .ok (.invokestatic 58, 3) := by decide +kernel
theorem d_M_hope_9 : decode b_M_hope 9 = .ok (.ifCond .eq 33, 3) := by decide +kernel
theorem d_M_hope_12 : decode b_M_hope 12 = .ok (.iload_n 2, 1) := by decide +kernel
theorem d_M_hope_13 : decode b_M_hope 13 = .ok (.i2l, 1) := by decide +kernel
theorem d_M_hope_14 : decode b_M_hope 14 = .ok (.lconst 0, 1) := by decide +kernel
theorem d_M_hope_15 : decode b_M_hope 15 = .ok (.lconst 1, 1) := by decide +kernel
theorem d_M_hope_16 : decode b_M_hope 16 = .ok (.invokestatic 58, 3) := by decide +kernel
theorem d_M_hope_19 : decode b_M_hope 19 = .ok (.ifCond .eq 23, 3) := by decide +kernel
theorem d_M_hope_22 : decode b_M_hope 22 = .ok (.iload_n 1, 1) := by decide +kernel
theorem d_M_hope_23 : decode b_M_hope 23 = .ok (.i2l, 1) := by decide +kernel
theorem d_M_hope_24 : decode b_M_hope 24 = .ok (.aload_n 0, 1) := by decide +kernel
theorem d_M_hope_25 : decode b_M_hope 25 = .ok (.getfield 7, 3) := by decide +kernel
theorem d_M_hope_28 : decode b_M_hope 28 = .ok (.iconst 3, 1) := by decide +kernel
theorem d_M_hope_29 : decode b_M_hope 29 = .ok (.iaload, 1) := by decide +kernel
theorem d_M_hope_30 : decode b_M_hope 30 = .ok (.i2l, 1) := by decide +kernel
theorem d_M_hope_31 : decode b_M_hope 31 = .ok (.lmul, 1) := by decide +kernel
theorem d_M_hope_32 : decode b_M_hope 32 = .ok (.ldc2_w 189, 3) := by decide +kernel
theorem d_M_hope_35 : decode b_M_hope 35 = .ok (.iload_n 2, 1) := by decide +kernel
theorem d_M_hope_36 : decode b_M_hope 36 = .ok (.invokestatic 195, 3) := by decide +kernel
theorem d_M_hope_39 : decode b_M_hope 39 = .ok (.goto 6, 3) := by decide +kernel
theorem d_M_hope_42 : decode b_M_hope 42 = .ok (.ldc2_w 181, 3) := by decide +kernel
theorem d_M_hope_45 : decode b_M_hope 45 = .ok (.lreturn, 1) := by decide +kernel
theorem d_M_feed_0 : decode b_M_feed 0 = .ok (.iload_n 3, 1) := by decide +kernel
theorem d_M_feed_1 : decode b_M_feed 1 = .ok (.i2l, 1) := by decide +kernel
theorem d_M_feed_2 : decode b_M_feed 2 = .ok (.lconst 1, 1) := by decide +kernel
theorem d_M_feed_3 : decode b_M_feed 3 = .ok (.ldc2_w 187, 3) := by decide +kernel
theorem d_M_feed_6 : decode b_M_feed 6 = .ok (.invokestatic 58, 3) := by decide +kernel
theorem d_M_feed_9 : decode b_M_feed 9 = .ok (.ifCond .ne 5, 3) := by decide +kernel
theorem d_M_feed_12 : decode b_M_feed 12 = .ok (.iconst (-1), 1) := by decide +kernel
theorem d_M_feed_13 : decode b_M_feed 13 = .ok (.ireturn, 1) := by decide +kernel
theorem d_M_feed_14 : decode b_M_feed 14 = .ok (.aload_n 0, 1) := by decide +kernel
theorem d_M_feed_15 : decode b_M_feed 15 = .ok (.getfield 199, 3) := by decide +kernel
theorem d_M_feed_18 : decode b_M_feed 18 = .ok (.iload_n 3, 1) := by decide +kernel
theorem d_M_feed_19 : decode b_M_feed 19 = .ok (.iadd, 1) := by decide +kernel
theorem d_M_feed_20 : decode b_M_feed 20 = .ok (.sipush 200, 3) := by decide +kernel
theorem d_M_feed_23 : decode b_M_feed 23 = .ok (.if_icmp .le 6, 3) := by decide +kernel
theorem d_M_feed_26 : decode b_M_feed 26 = .ok (.bipush (-2), 2) := by decide +kernel
theorem d_M_feed_28 : decode b_M_feed 28 = .ok (.ireturn, 1) := by decide +kernel
theorem d_M_feed_29 : decode b_M_feed 29 = .ok (.iconst 0, 1) := by decide +kernel
theorem d_M_feed_30 : decode b_M_feed 30 = .ok (.istore 4, 2) := by decide +kernel
theorem d_M_feed_32 : decode b_M_feed 32 = .ok (.iload 4, 2) := by decide +kernel
theorem d_M_feed_34 : decode b_M_feed 34 = .ok (.iload_n 3, 1) := by decide +kernel
theorem d_M_feed_35 : decode b_M_feed 35 = .ok (.if_icmp .ge 40, 3) := by decide +kernel
theorem d_M_feed_38 : decode b_M_feed 38 = .ok (.aload_n 0, 1) := by decide +kernel
theorem d_M_feed_39 : decode b_M_feed 39 = .ok (.getfield 23, 3) := by decide +kernel
theorem d_M_feed_42 : decode b_M_feed 42 = .ok (.aload_n 0, 1) := by decide +kernel
theorem d_M_feed_43 : decode b_M_feed 43 = .ok (.getfield 199, 3) := by decide +kernel
theorem d_M_feed_46 : decode b_M_feed 46 = .ok (.lload_n 1, 1) := by decide +kernel
theorem d_M_feed_47 : decode b_M_feed 47 = .ok (.bipush 8, 2) := by decide +kernel
theorem d_M_feed_49 : decode b_M_feed 49 = .ok (.iload 4, 2) := by decide +kernel
theorem d_M_feed_51 : decode b_M_feed 51 = .ok (.imul, 1) := by decide +kernel
theorem d_M_feed_52 : decode b_M_feed 52 = .ok (.lshr, 1) := by decide +kernel
theorem d_M_feed_53 : decode b_M_feed 53 = .ok (.ldc2_w 202, 3) := by decide +kernel
theorem d_M_feed_56 : decode b_M_feed 56 = .ok (.land, 1) := by decide +kernel
theorem d_M_feed_57 : decode b_M_feed 57 = .ok (.l2i, 1) := by decide +kernel
theorem d_M_feed_58 : decode b_M_feed 58 = .ok (.iastore, 1) := by decide +kernel
theorem d_M_feed_59 : decode b_M_feed 59 = .ok (.aload_n 0, 1) := by decide +kernel
theorem d_M_feed_60 : decode b_M_feed 60 = .ok (.dup, 1) := by decide +kernel
theorem d_M_feed_61 : decode b_M_feed 61 = .ok (.getfield 199, 3) := by decide +kernel
theorem d_M_feed_64 : decode b_M_feed 64 = .ok (.iconst 1, 1) := by decide +kernel
theorem d_M_feed_65 : decode b_M_feed 65 = .ok (.iadd, 1) := by decide +kernel
theorem d_M_feed_66 : decode b_M_feed 66 = .ok (.putfield 199, 3) := by decide +kernel
theorem d_M_feed_69 : decode b_M_feed 69 = .ok (.iinc 4 1, 3) := by decide +kernel
theorem d_M_feed_72 : decode b_M_feed 72 = .ok (.goto (-40), 3) := by decide +kernel
theorem d_M_feed_75 : decode b_M_feed 75 = .ok (.aload_n 0, 1) := by decide +kernel
theorem d_M_feed_76 : decode b_M_feed 76 = .ok (.getfield 199, 3) := by decide +kernel
theorem d_M_feed_79 : decode b_M_feed 79 = .ok (.ireturn, 1) := by decide +kernel
theorem d_M_isRow_0 : decode b_M_isRow 0 = .ok (.aload_n 0, 1) := by decide +kernel
theorem d_M_isRow_1 : decode b_M_isRow 1 = .ok (.getfield 204, 3) := by decide +kernel
theorem d_M_isRow_4 : decode b_M_isRow 4 = .ok (.aload_n 0, 1) := by decide +kernel
theorem d_M_isRow_5 : decode b_M_isRow 5 = .ok (.getfield 199, 3) := by decide +kernel
theorem d_M_isRow_8 : decode b_M_isRow 8 = .ok (.if_icmp .ge 27, 3) := by decide +kernel
theorem d_M_isRow_11 : decode b_M_isRow 11 = .ok (.aload_n 0, 1) := by decide +kernel
theorem d_M_isRow_12 : decode b_M_isRow 12 = .ok (.getfield 23, 3) := by decide +kernel
theorem d_M_isRow_15 : decode b_M_isRow 15 = .ok (.aload_n 0, 1) := by decide +kernel
theorem d_M_isRow_16 : decode b_M_isRow 16 = .ok (.getfield 204, 3) := by decide +kernel
theorem d_M_isRow_19 : decode b_M_isRow 19 = .ok (.iaload, 1) := by decide +kernel
theorem d_M_isRow_20 : decode b_M_isRow 20 = .ok (.i2l, 1) := by decide +kernel
theorem d_M_isRow_21 : decode b_M_isRow 21 = .ok (.iload_n 1, 1) := by decide +kernel
theorem d_M_isRow_22 : decode b_M_isRow 22 = .ok (.i2l, 1) := by decide +kernel
theorem d_M_isRow_23 : decode b_M_isRow 23 = .ok (.iload_n 2, 1) := by decide +kernel
theorem d_M_isRow_24 : decode b_M_isRow 24 = .ok (.i2l, 1) := by decide +kernel
theorem d_M_isRow_25 : decode b_M_isRow 25 = .ok (.invokestatic 58, 3) := by decide +kernel
theorem d_M_isRow_28 : decode b_M_isRow 28 = .ok (.ifCond .eq 7, 3) := by decide +kernel
theorem d_M_isRow_31 : decode b_M_isRow 31 = .ok (.iconst 1, 1) := by decide +kernel
theorem d_M_isRow_32 : decode b_M_isRow 32 = .ok (.goto 4, 3) := by decide +kernel
theorem d_M_isRow_35 : decode b_M_isRow 35 = .ok (.iconst 0, 1) := by decide +kernel
theorem d_M_isRow_36 : decode b_M_isRow 36 = .ok (.ireturn, 1) := by decide +kernel
theorem d_M_wordThere_0 : decode b_M_wordThere 0 = .ok (.iconst 0, 1) := by decide +kernel
theorem d_M_wordThere_1 : decode b_M_wordThere 1 = .ok (.istore_n 1, 1) := by decide +kernel
theorem d_M_wordThere_2 : decode b_M_wordThere 2 = .ok (.iload_n 1, 1) := by decide +kernel
theorem d_M_wordThere_3 : decode b_M_wordThere 3 = .ok (.bipush 16, 2) := by decide +kernel
theorem d_M_wordThere_5 : decode b_M_wordThere 5 = .ok (.if_icmp .ge 102, 3) := by decide +kernel
theorem d_M_wordThere_8 : decode b_M_wordThere 8 = .ok (.aload_n 0, 1) := by decide +kernel
theorem d_M_wordThere_9 : decode b_M_wordThere 9 = .ok (.getfield 204, 3) := by decide +kernel
theorem d_M_wordThere_12 : decode b_M_wordThere 12 = .ok (.aload_n 0, 1) := by decide +kernel
theorem d_M_wordThere_13 : decode b_M_wordThere 13 = .ok (.getfield 207, 3) := by decide +kernel
theorem d_M_wordThere_16 : decode b_M_wordThere 16 = .ok (.isub, 1) := by decide +kernel
theorem d_M_wordThere_17 : decode b_M_wordThere 17 = .ok (.bipush 8, 2) := by decide +kernel
theorem d_M_wordThere_19 : decode b_M_wordThere 19 = .ok (.if_icmp .gt 7, 3) := by decide +kernel
theorem d_M_wordThere_22 : decode b_M_wordThere 22 = .ok (.iconst 1, 1) := by decide +kernel
theorem d_M_wordThere_23 : decode b_M_wordThere 23 = .ok (.goto 4, 3) := by decide +kernel
theorem d_M_wordThere_26 : decode b_M_wordThere 26 = .ok (.iconst 0, 1) := by decide +kernel
theorem d_M_wordThere_27 : decode b_M_wordThere 27 = .ok (.istore_n 2, 1) := by decide +kernel
theorem d_M_wordThere_28 : decode b_M_wordThere 28 = .ok (.iconst 0, 1) := by decide +kernel
theorem d_M_wordThere_29 : decode b_M_wordThere 29 = .ok (.istore_n 3, 1) := by decide +kernel
theorem d_M_wordThere_30 : decode b_M_wordThere 30 = .ok (.iload_n 3, 1) := by decide +kernel
theorem d_M_wordThere_31 : decode b_M_wordThere 31 = .ok (.bipush 8, 2) := by decide +kernel
theorem d_M_wordThere_33 : decode b_M_wordThere 33 = .ok (.if_icmp .ge 62, 3) := by decide +kernel
theorem d_M_wordThere_36 : decode b_M_wordThere 36 = .ok (.iload_n 2, 1) := by decide +kernel
theorem d_M_wordThere_37 : decode b_M_wordThere 37 = .ok (.ifCond .eq 58, 3) := by decide +kernel
theorem d_M_wordThere_40 : decode b_M_wordThere 40 = .ok (.aload_n 0, 1) := by decide +kernel
theorem d_M_wordThere_41 : decode b_M_wordThere 41 = .ok (.getfield 26, 3) := by decide +kernel
theorem d_M_wordThere_44 : decode b_M_wordThere 44 = .ok (.bipush 8, 2) := by decide +kernel
theorem d_M_wordThere_46 : decode b_M_wordThere 46 = .ok (.iload_n 1, 1) := by decide +kernel
theorem d_M_wordThere_47 : decode b_M_wordThere 47 = .ok (.imul, 1) := by decide +kernel
theorem d_M_wordThere_48 : decode b_M_wordThere 48 = .ok (.iload_n 3, 1) := by decide +kernel
theorem d_M_wordThere_49 : decode b_M_wordThere 49 = .ok (.iadd, 1) := by decide +kernel
theorem d_M_wordThere_50 : decode b_M_wordThere 50 = .ok (.caload, 1) := by decide +kernel
theorem d_M_wordThere_51 : decode b_M_wordThere 51 = .ok (.aload_n 0, 1) := by decide +kernel
theorem d_M_wordThere_52 : decode b_M_wordThere 52 = .ok (.getfield 207, 3) := by decide +kernel
theorem d_M_wordThere_55 : decode b_M_wordThere 55 = .ok (.iload_n 3, 1) := by decide +kernel
theorem d_M_wordThere_56 : decode b_M_wordThere 56 = .ok (.iadd, 1) := by decide +kernel
theorem d_M_wordThere_57 : decode b_M_wordThere 57 = .ok (.aload_n 0, 1) := by decide +kernel
theorem d_M_wordThere_58 : decode b_M_wordThere 58 = .ok (.getfield 204, 3) := by decide +kernel
theorem d_M_wordThere_61 : decode b_M_wordThere 61 = .ok (.if_icmp .ge 17, 3) := by decide +kernel
theorem d_M_wordThere_64 : decode b_M_wordThere 64 = .ok (.aload_n 0, 1) := by decide +kernel
theorem d_M_wordThere_65 : decode b_M_wordThere 65 = .ok (.getfield 23, 3) := by decide +kernel
theorem d_M_wordThere_68 : decode b_M_wordThere 68 = .ok (.aload_n 0, 1) := by decide +kernel
theorem d_M_wordThere_69 : decode b_M_wordThere 69 = .ok (.getfield 207, 3) := by decide +kernel
theorem d_M_wordThere_72 : decode b_M_wordThere 72 = .ok (.iload_n 3, 1) := by decide +kernel
theorem d_M_wordThere_73 : decode b_M_wordThere 73 = .ok (.iadd, 1) := by decide +kernel
theorem d_M_wordThere_74 : decode b_M_wordThere 74 = .ok (.iaload, 1) := by decide +kernel
theorem d_M_wordThere_75 : decode b_M_wordThere 75 = .ok (.goto 5, 3) := by decide +kernel
theorem d_M_wordThere_78 : decode b_M_wordThere 78 = .ok (.bipush 32, 2) := by decide +kernel
theorem d_M_wordThere_80 : decode b_M_wordThere 80 = .ok (.if_icmp .ne 7, 3) := by decide +kernel
theorem d_M_wordThere_83 : decode b_M_wordThere 83 = .ok (.iconst 1, 1) := by decide +kernel
theorem d_M_wordThere_84 : decode b_M_wordThere 84 = .ok (.goto 4, 3) := by decide +kernel
theorem d_M_wordThere_87 : decode b_M_wordThere 87 = .ok (.iconst 0, 1) := by decide +kernel
theorem d_M_wordThere_88 : decode b_M_wordThere 88 = .ok (.istore_n 2, 1) := by decide +kernel
theorem d_M_wordThere_89 : decode b_M_wordThere 89 = .ok (.iinc 3 1, 3) := by decide +kernel
theorem d_M_wordThere_92 : decode b_M_wordThere 92 = .ok (.goto (-62), 3) := by decide +kernel
theorem d_M_wordThere_95 : decode b_M_wordThere 95 = .ok (.iload_n 2, 1) := by decide +kernel
theorem d_M_wordThere_96 : decode b_M_wordThere 96 = .ok (.ifCond .eq 5, 3) := by decide +kernel
theorem d_M_wordThere_99 : decode b_M_wordThere 99 = .ok (.iload_n 1, 1) := by decide +kernel
theorem d_M_wordThere_100 : decode b_M_wordThere 100 = .ok (.ireturn, 1) := by decide +kernel
theorem d_M_wordThere_101 : decode b_M_wordThere 101 = .ok (.iinc 1 1, 3) := by decide +kernel
theorem d_M_wordThere_104 : decode b_M_wordThere 104 = .ok (.goto (-102), 3) := by decide +kernel
theorem d_M_wordThere_107 : decode b_M_wordThere 107 = .ok (.iconst (-1), 1) := by decide +kernel
theorem d_M_wordThere_108 : decode b_M_wordThere 108 = .ok (.ireturn, 1) := by decide +kernel
theorem d_M_next_0 : decode b_M_next 0 = .ok (.aload_n 0, 1) := by decide +kernel
theorem d_M_next_1 : decode b_M_next 1 = .ok (.getfield 204, 3) := by decide +kernel
theorem d_M_next_4 : decode b_M_next 4 = .ok (.aload_n 0, 1) := by decide +kernel
theorem d_M_next_5 : decode b_M_next 5 = .ok (.getfield 199, 3) := by decide +kernel
theorem d_M_next_8 : decode b_M_next 8 = .ok (.if_icmp .ge 30, 3) := by decide +kernel
theorem d_M_next_11 : decode b_M_next 11 = .ok (.aload_n 0, 1) := by decide +kernel
theorem d_M_next_12 : decode b_M_next 12 = .ok (.getfield 23, 3) := by decide +kernel
theorem d_M_next_15 : decode b_M_next 15 = .ok (.aload_n 0, 1) := by decide +kernel
theorem d_M_next_16 : decode b_M_next 16 = .ok (.getfield 204, 3) := by decide +kernel
theorem d_M_next_19 : decode b_M_next 19 = .ok (.iaload, 1) := by decide +kernel
theorem d_M_next_20 : decode b_M_next 20 = .ok (.bipush 32, 2) := by decide +kernel
theorem d_M_next_22 : decode b_M_next 22 = .ok (.if_icmp .ne 16, 3) := by decide +kernel
theorem d_M_next_25 : decode b_M_next 25 = .ok (.aload_n 0, 1) := by decide +kernel
theorem d_M_next_26 : decode b_M_next 26 = .ok (.dup, 1) := by decide +kernel
theorem d_M_next_27 : decode b_M_next 27 = .ok (.getfield 204, 3) := by decide +kernel
theorem d_M_next_30 : decode b_M_next 30 = .ok (.iconst 1, 1) := by decide +kernel
theorem d_M_next_31 : decode b_M_next 31 = .ok (.iadd, 1) := by decide +kernel
theorem d_M_next_32 : decode b_M_next 32 = .ok (.putfield 204, 3) := by decide +kernel
theorem d_M_next_35 : decode b_M_next 35 = .ok (.goto (-35), 3) := by decide +kernel
theorem d_M_next_38 : decode b_M_next 38 = .ok (.aload_n 0, 1) := by decide +kernel
theorem d_M_next_39 : decode b_M_next 39 = .ok (.aload_n 0, 1) := by decide +kernel
theorem d_M_next_40 : decode b_M_next 40 = .ok (.getfield 204, 3) := by decide +kernel
theorem d_M_next_43 : decode b_M_next 43 = .ok (.putfield 207, 3) := by decide +kernel
theorem d_M_next_46 : decode b_M_next 46 = .ok (.aload_n 0, 1) := by decide +kernel
theorem d_M_next_47 : decode b_M_next 47 = .ok (.iconst 0, 1) := by decide +kernel
theorem d_M_next_48 : decode b_M_next 48 = .ok (.putfield 210, 3) := by decide +kernel
theorem d_M_next_51 : decode b_M_next 51 = .ok (.aload_n 0, 1) := by decide +kernel
theorem d_M_next_52 : decode b_M_next 52 = .ok (.getfield 204, 3) := by decide +kernel
theorem d_M_next_55 : decode b_M_next 55 = .ok (.aload_n 0, 1) := by decide +kernel
theorem d_M_next_56 : decode b_M_next 56 = .ok (.getfield 199, 3) := by decide +kernel
theorem d_M_next_59 : decode b_M_next 59 = .ok (.if_icmp .ne 11, 3) := by decide +kernel
theorem d_M_next_62 : decode b_M_next 62 = .ok (.aload_n 0, 1) := by decide +kernel
theorem d_M_next_63 : decode b_M_next 63 = .ok (.iconst 0, 1) := by decide +kernel
theorem d_M_next_64 : decode b_M_next 64 = .ok (.putfield 213, 3) := by decide +kernel
theorem d_M_next_67 : decode b_M_next 67 = .ok (.goto 170, 3) := by decide +kernel
theorem d_M_next_70 : decode b_M_next 70 = .ok (.aload_n 0, 1) := by decide +kernel
theorem d_M_next_71 : decode b_M_next 71 = .ok (.bipush 97, 2) := by decide +kernel
theorem d_M_next_73 : decode b_M_next 73 = .ok (.bipush 122, 2) := by decide +kernel
theorem d_M_next_75 : decode b_M_next 75 = .ok (.invokevirtual 216, 3) := by decide +kernel
theorem d_M_next_78 : decode b_M_next 78 = .ok (.ifCond .eq 43, 3) := by decide +kernel
theorem d_M_next_81 : decode b_M_next 81 = .ok (.aload_n 0, 1) := by decide +kernel
theorem d_M_next_82 : decode b_M_next 82 = .ok (.iconst 1, 1) := by decide +kernel
theorem d_M_next_83 : decode b_M_next 83 = .ok (.putfield 213, 3) := by decide +kernel
theorem d_M_next_86 : decode b_M_next 86 = .ok (.aload_n 0, 1) := by decide +kernel
theorem d_M_next_87 : decode b_M_next 87 = .ok (.bipush 97, 2) := by decide +kernel
theorem d_M_next_89 : decode b_M_next 89 = .ok (.bipush 122, 2) := by decide +kernel
theorem d_M_next_91 : decode b_M_next 91 = .ok (.invokevirtual 216, 3) := by decide +kernel
theorem d_M_next_94 : decode b_M_next 94 = .ok (.ifCond .eq 16, 3) := by decide +kernel
theorem d_M_next_97 : decode b_M_next 97 = .ok (.aload_n 0, 1) := by decide +kernel
theorem d_M_next_98 : decode b_M_next 98 = .ok (.dup, 1) := by decide +kernel
theorem d_M_next_99 : decode b_M_next 99 = .ok (.getfield 204, 3) := by decide +kernel
theorem d_M_next_102 : decode b_M_next 102 = .ok (.iconst 1, 1) := by decide +kernel
theorem d_M_next_103 : decode b_M_next 103 = .ok (.iadd, 1) := by decide +kernel
theorem d_M_next_104 : decode b_M_next 104 = .ok (.putfield 204, 3) := by decide +kernel
theorem d_M_next_107 : decode b_M_next 107 = .ok (.goto (-21), 3) := by decide +kernel
theorem d_M_next_110 : decode b_M_next 110 = .ok (.aload_n 0, 1) := by decide +kernel
theorem d_M_next_111 : decode b_M_next 111 = .ok (.aload_n 0, 1) := by decide +kernel
theorem d_M_next_112 : decode b_M_next 112 = .ok (.invokevirtual 220, 3) := by decide +kernel
theorem d_M_next_115 : decode b_M_next 115 = .ok (.putfield 210, 3) := by decide +kernel
theorem d_M_next_118 : decode b_M_next 118 = .ok (.goto 119, 3) := by decide +kernel
theorem d_M_next_121 : decode b_M_next 121 = .ok (.aload_n 0, 1) := by decide +kernel
theorem d_M_next_122 : decode b_M_next 122 = .ok (.bipush 48, 2) := by decide +kernel
theorem d_M_next_124 : decode b_M_next 124 = .ok (.bipush 57, 2) := by decide +kernel
theorem d_M_next_126 : decode b_M_next 126 = .ok (.invokevirtual 216, 3) := by decide +kernel
theorem d_M_next_129 : decode b_M_next 129 = .ok (.ifCond .eq 75, 3) := by decide +kernel
theorem d_M_next_132 : decode b_M_next 132 = .ok (.aload_n 0, 1) := by decide +kernel
theorem d_M_next_133 : decode b_M_next 133 = .ok (.iconst 2, 1) := by decide +kernel
theorem d_M_next_134 : decode b_M_next 134 = .ok (.putfield 213, 3) := by decide +kernel
theorem d_M_next_137 : decode b_M_next 137 = .ok (.aload_n 0, 1) := by decide +kernel
theorem d_M_next_138 : decode b_M_next 138 = .ok (.bipush 48, 2) := by decide +kernel
theorem d_M_next_140 : decode b_M_next 140 = .ok (.bipush 57, 2) := by decide +kernel
theorem d_M_next_142 : decode b_M_next 142 = .ok (.invokevirtual 216, 3) := by decide +kernel
theorem d_M_next_145 : decode b_M_next 145 = .ok (.ifCond .eq 92, 3) := by decide +kernel
theorem d_M_next_148 : decode b_M_next 148 = .ok (.aload_n 0, 1) := by decide +kernel
theorem d_M_next_149 : decode b_M_next 149 = .ok (.aload_n 0, 1) := by decide +kernel
theorem d_M_next_150 : decode b_M_next 150 = .ok (.getfield 204, 3) := by decide +kernel
theorem d_M_next_153 : decode b_M_next 153 = .ok (.aload_n 0, 1) := by decide +kernel
theorem d_M_next_154 : decode b_M_next 154 = .ok (.getfield 207, 3) := by decide +kernel
theorem d_M_next_157 : decode b_M_next 157 = .ok (.isub, 1) := by decide +kernel
theorem d_M_next_158 : decode b_M_next 158 = .ok (.iconst 3, 1) := by decide +kernel
theorem d_M_next_159 : decode b_M_next 159 = .ok (.if_icmp .ge 26, 3) := by decide +kernel
theorem d_M_next_162 : decode b_M_next 162 = .ok (.bipush 10, 2) := by decide +kernel
theorem d_M_next_164 : decode b_M_next 164 = .ok (.aload_n 0, 1) := by decide +kernel
theorem d_M_next_165 : decode b_M_next 165 = .ok (.getfield 210, 3) := by decide +kernel
theorem d_M_next_168 : decode b_M_next 168 = .ok (.imul, 1) := by decide +kernel
theorem d_M_next_169 : decode b_M_next 169 = .ok (.aload_n 0, 1) := by decide +kernel
theorem d_M_next_170 : decode b_M_next 170 = .ok (.getfield 23, 3) := by decide +kernel
theorem d_M_next_173 : decode b_M_next 173 = .ok (.aload_n 0, 1) := by decide +kernel
theorem d_M_next_174 : decode b_M_next 174 = .ok (.getfield 204, 3) := by decide +kernel
theorem d_M_next_177 : decode b_M_next 177 = .ok (.iaload, 1) := by decide +kernel
theorem d_M_next_178 : decode b_M_next 178 = .ok (.iadd, 1) := by decide +kernel
theorem d_M_next_179 : decode b_M_next 179 = .ok (.bipush 48, 2) := by decide +kernel
theorem d_M_next_181 : decode b_M_next 181 = .ok (.isub, 1) := by decide +kernel
theorem d_M_next_182 : decode b_M_next 182 = .ok (.goto 6, 3) := by decide +kernel
theorem d_M_next_185 : decode b_M_next 185 = .ok (.sipush 1000, 3) := by decide +kernel
theorem d_M_next_188 : decode b_M_next 188 = .ok (.putfield 210, 3) := by decide +kernel
theorem d_M_next_191 : decode b_M_next 191 = .ok (.aload_n 0, 1) := by decide +kernel
theorem d_M_next_192 : decode b_M_next 192 = .ok (.dup, 1) := by decide +kernel
theorem d_M_next_193 : decode b_M_next 193 = .ok (.getfield 204, 3) := by decide +kernel
theorem d_M_next_196 : decode b_M_next 196 = .ok (.iconst 1, 1) := by decide +kernel
theorem d_M_next_197 : decode b_M_next 197 = .ok (.iadd, 1) := by decide +kernel
theorem d_M_next_198 : decode b_M_next 198 = .ok (.putfield 204, 3) := by decide +kernel
theorem d_M_next_201 : decode b_M_next 201 = .ok (.goto (-64), 3) := by decide +kernel
theorem d_M_next_204 : decode b_M_next 204 = .ok (.aload_n 0, 1) := by decide +kernel
theorem d_M_next_205 : decode b_M_next 205 = .ok (.aload_n 0, 1) := by decide +kernel
theorem d_M_next_206 : decode b_M_next 206 = .ok (.getfield 23, 3) := by decide +kernel
theorem d_M_next_209 : decode b_M_next 209 = .ok (.aload_n 0, 1) := by decide +kernel
theorem d_M_next_210 : decode b_M_next 210 = .ok (.getfield 204, 3) := by decide +kernel
theorem d_M_next_213 : decode b_M_next 213 = .ok (.iaload, 1) := by decide +kernel
theorem d_M_next_214 : decode b_M_next 214 = .ok (.bipush 59, 2) := by decide +kernel
theorem d_M_next_216 : decode b_M_next 216 = .ok (.if_icmp .ne 7, 3) := by decide +kernel
theorem d_M_next_219 : decode b_M_next 219 = .ok (.iconst 3, 1) := by decide +kernel
theorem d_M_next_220 : decode b_M_next 220 = .ok (.goto 4, 3) := by decide +kernel
theorem d_M_next_223 : decode b_M_next 223 = .ok (.iconst 4, 1) := by decide +kernel
theorem d_M_next_224 : decode b_M_next 224 = .ok (.putfield 213, 3) := by decide +kernel
theorem d_M_next_227 : decode b_M_next 227 = .ok (.aload_n 0, 1) := by decide +kernel
theorem d_M_next_228 : decode b_M_next 228 = .ok (.dup, 1) := by decide +kernel
theorem d_M_next_229 : decode b_M_next 229 = .ok (.getfield 204, 3) := by decide +kernel
theorem d_M_next_232 : decode b_M_next 232 = .ok (.iconst 1, 1) := by decide +kernel
theorem d_M_next_233 : decode b_M_next 233 = .ok (.iadd, 1) := by decide +kernel
theorem d_M_next_234 : decode b_M_next 234 = .ok (.putfield 204, 3) := by decide +kernel
theorem d_M_next_237 : decode b_M_next 237 = .ok (.return_, 1) := by decide +kernel
theorem d_M_isWord_0 : decode b_M_isWord 0 = .ok (.aload_n 0, 1) := by decide +kernel
theorem d_M_isWord_1 : decode b_M_isWord 1 = .ok (.getfield 213, 3) := by decide +kernel
theorem d_M_isWord_4 : decode b_M_isWord 4 = .ok (.iconst 1, 1) := by decide +kernel
theorem d_M_isWord_5 : decode b_M_isWord 5 = .ok (.if_icmp .ne 15, 3) := by decide +kernel
theorem d_M_isWord_8 : decode b_M_isWord 8 = .ok (.aload_n 0, 1) := by decide +kernel
theorem d_M_isWord_9 : decode b_M_isWord 9 = .ok (.getfield 210, 3) := by decide +kernel
theorem d_M_isWord_12 : decode b_M_isWord 12 = .ok (.iload_n 1, 1) := by decide +kernel
theorem d_M_isWord_13 : decode b_M_isWord 13 = .ok (.if_icmp .ne 7, 3) := by decide +kernel
theorem d_M_isWord_16 : decode b_M_isWord 16 = .ok (.iconst 1, 1) := by decide +kernel
theorem d_M_isWord_17 : decode b_M_isWord 17 = .ok (.goto 4, 3) := by decide +kernel
theorem d_M_isWord_20 : decode b_M_isWord 20 = .ok (.iconst 0, 1) := by decide +kernel
theorem d_M_isWord_21 : decode b_M_isWord 21 = .ok (.ireturn, 1) := by decide +kernel
theorem d_M_reads_0 : decode b_M_reads 0 = .ok (.aload_n 0, 1) := by decide +kernel
theorem d_M_reads_1 : decode b_M_reads 1 = .ok (.invokevirtual 223, 3) := by decide +kernel
theorem d_M_reads_4 : decode b_M_reads 4 = .ok (.aload_n 0, 1) := by decide +kernel
theorem d_M_reads_5 : decode b_M_reads 5 = .ok (.aload_n 0, 1) := by decide +kernel
theorem d_M_reads_6 : decode b_M_reads 6 = .ok (.getfield 210, 3) := by decide +kernel
theorem d_M_reads_9 : decode b_M_reads 9 = .ok (.putfield 226, 3) := by decide +kernel
theorem d_M_reads_12 : decode b_M_reads 12 = .ok (.aload_n 0, 1) := by decide +kernel
theorem d_M_reads_13 : decode b_M_reads 13 = .ok (.getfield 213, 3) := by decide +kernel
theorem d_M_reads_16 : decode b_M_reads 16 = .ok (.iconst 2, 1) := by decide +kernel
theorem d_M_reads_17 : decode b_M_reads 17 = .ok (.if_icmp .ne 15, 3) := by decide +kernel
theorem d_M_reads_20 : decode b_M_reads 20 = .ok (.aload_n 0, 1) := by decide +kernel
theorem d_M_reads_21 : decode b_M_reads 21 = .ok (.getfield 210, 3) := by decide +kernel
theorem d_M_reads_24 : decode b_M_reads 24 = .ok (.iload_n 1, 1) := by decide +kernel
theorem d_M_reads_25 : decode b_M_reads 25 = .ok (.if_icmp .gt 7, 3) := by decide +kernel
theorem d_M_reads_28 : decode b_M_reads 28 = .ok (.iconst 1, 1) := by decide +kernel
theorem d_M_reads_29 : decode b_M_reads 29 = .ok (.goto 4, 3) := by decide +kernel
theorem d_M_reads_32 : decode b_M_reads 32 = .ok (.iconst 0, 1) := by decide +kernel
theorem d_M_reads_33 : decode b_M_reads 33 = .ok (.ireturn, 1) := by decide +kernel
theorem d_M_readsWord_0 : decode b_M_readsWord 0 = .ok (.aload_n 0, 1) := by decide +kernel
theorem d_M_readsWord_1 : decode b_M_readsWord 1 = .ok (.invokevirtual 223, 3) := by decide +kernel
theorem d_M_readsWord_4 : decode b_M_readsWord 4 = .ok (.aload_n 0, 1) := by decide +kernel
theorem d_M_readsWord_5 : decode b_M_readsWord 5 = .ok (.iload_n 1, 1) := by decide +kernel
theorem d_M_readsWord_6 : decode b_M_readsWord 6 = .ok (.invokevirtual 229, 3) := by decide +kernel
theorem d_M_readsWord_9 : decode b_M_readsWord 9 = .ok (.ireturn, 1) := by decide +kernel
