theorem d_M_readsBarge_0 : decode b_M_readsBarge 0 = .ok (.iload_n 2, 1) := by decide +kernel
theorem d_M_readsBarge_1 : decode b_M_readsBarge 1 = .ok (.bipush 8, 2) := by decide +kernel
theorem d_M_readsBarge_3 : decode b_M_readsBarge 3 = .ok (.if_icmp .eq 21, 3) := by decide +kernel
theorem d_M_readsBarge_6 : decode b_M_readsBarge 6 = .ok (.aload_n 0, 1) := by decide +kernel
theorem d_M_readsBarge_7 : decode b_M_readsBarge 7 = .ok (.bipush 6, 2) := by decide +kernel
theorem d_M_readsBarge_9 : decode b_M_readsBarge 9 = .ok (.invokevirtual 232, 3) := by decide +kernel
theorem d_M_readsBarge_12 : decode b_M_readsBarge 12 = .ok (.ifCond .eq 12, 3) := by decide +kernel
theorem d_M_readsBarge_15 : decode b_M_readsBarge 15 = .ok (.aload_n 0, 1) := by decide +kernel
theorem d_M_readsBarge_16 : decode b_M_readsBarge 16 = .ok (.bipush 9, 2) := by decide +kernel
theorem d_M_readsBarge_18 : decode b_M_readsBarge 18 = .ok (.invokevirtual 235, 3) := by decide +kernel
theorem d_M_readsBarge_21 : decode b_M_readsBarge 21 = .ok (.ifCond .ne 5, 3) := by decide +kernel
theorem d_M_readsBarge_24 : decode b_M_readsBarge 24 = .ok (.iconst 0, 1) := by decide +kernel
theorem d_M_readsBarge_25 : decode b_M_readsBarge 25 = .ok (.ireturn, 1) := by decide +kernel
theorem d_M_readsBarge_26 : decode b_M_readsBarge 26 = .ok (.aload_n 0, 1) := by decide +kernel
theorem d_M_readsBarge_27 : decode b_M_readsBarge 27 = .ok (.getfield 226, 3) := by decide +kernel
theorem d_M_readsBarge_30 : decode b_M_readsBarge 30 = .ok (.istore 4, 2) := by decide +kernel
theorem d_M_readsBarge_32 : decode b_M_readsBarge 32 = .ok (.aload_n 0, 1) := by decide +kernel
theorem d_M_readsBarge_33 : decode b_M_readsBarge 33 = .ok (.bipush 7, 2) := by decide +kernel
theorem d_M_readsBarge_35 : decode b_M_readsBarge 35 = .ok (.invokevirtual 232, 3) := by decide +kernel
theorem d_M_readsBarge_38 : decode b_M_readsBarge 38 = .ok (.ifCond .eq 12, 3) := by decide +kernel
theorem d_M_readsBarge_41 : decode b_M_readsBarge 41 = .ok (.aload_n 0, 1) := by decide +kernel
theorem d_M_readsBarge_42 : decode b_M_readsBarge 42 = .ok (.bipush 9, 2) := by decide +kernel
theorem d_M_readsBarge_44 : decode b_M_readsBarge 44 = .ok (.invokevirtual 235, 3) := by decide +kernel
theorem d_M_readsBarge_47 : decode b_M_readsBarge 47 = .ok (.ifCond .ne 5, 3) := by decide +kernel
theorem d_M_readsBarge_50 : decode b_M_readsBarge 50 = .ok (.iconst 0, 1) := by decide +kernel
theorem d_M_readsBarge_51 : decode b_M_readsBarge 51 = .ok (.ireturn, 1) := by decide +kernel
theorem d_M_readsBarge_52 : decode b_M_readsBarge 52 = .ok (.aload_n 0, 1) := by decide +kernel
theorem d_M_readsBarge_53 : decode b_M_readsBarge 53 = .ok (.getfield 226, 3) := by decide +kernel
theorem d_M_readsBarge_56 : decode b_M_readsBarge 56 = .ok (.istore 5, 2) := by decide +kernel
theorem d_M_readsBarge_58 : decode b_M_readsBarge 58 = .ok (.bipush 50, 2) := by decide +kernel
theorem d_M_readsBarge_60 : decode b_M_readsBarge 60 = .ok (.istore 6, 2) := by decide +kernel
theorem d_M_readsBarge_62 : decode b_M_readsBarge 62 = .ok (.aload_n 0, 1) := by decide +kernel
theorem d_M_readsBarge_63 : decode b_M_readsBarge 63 = .ok (.invokevirtual 223, 3) := by decide +kernel
theorem d_M_readsBarge_66 : decode b_M_readsBarge 66 = .ok (.aload_n 0, 1) := by decide +kernel
theorem d_M_readsBarge_67 : decode b_M_readsBarge 67 = .ok (.bipush 8, 2) := by decide +kernel
theorem d_M_readsBarge_69 : decode b_M_readsBarge 69 = .ok (.invokevirtual 229, 3) := by decide +kernel
theorem d_M_readsBarge_72 : decode b_M_readsBarge 72 = .ok (.ifCond .eq 24, 3) := by decide +kernel
theorem d_M_readsBarge_75 : decode b_M_readsBarge 75 = .ok (.aload_n 0, 1) := by decide +kernel
theorem d_M_readsBarge_76 : decode b_M_readsBarge 76 = .ok (.bipush 99, 2) := by decide +kernel
theorem d_M_readsBarge_78 : decode b_M_readsBarge 78 = .ok (.invokevirtual 235, 3) := by decide +kernel
theorem d_M_readsBarge_81 : decode b_M_readsBarge 81 = .ok (.ifCond .ne 5, 3) := by decide +kernel
theorem d_M_readsBarge_84 : decode b_M_readsBarge 84 = .ok (.iconst 0, 1) := by decide +kernel
theorem d_M_readsBarge_85 : decode b_M_readsBarge 85 = .ok (.ireturn, 1) := by decide +kernel
theorem d_M_readsBarge_86 : decode b_M_readsBarge 86 = .ok (.aload_n 0, 1) := by decide +kernel
theorem d_M_readsBarge_87 : decode b_M_readsBarge 87 = .ok (.getfield 226, 3) := by decide +kernel
theorem d_M_readsBarge_90 : decode b_M_readsBarge 90 = .ok (.istore 6, 2) := by decide +kernel
theorem d_M_readsBarge_92 : decode b_M_readsBarge 92 = .ok (.aload_n 0, 1) := by decide +kernel
theorem d_M_readsBarge_93 : decode b_M_readsBarge 93 = .ok (.invokevirtual 223, 3) := by decide +kernel
theorem d_M_readsBarge_96 : decode b_M_readsBarge 96 = .ok (.aload_n 0, 1) := by decide +kernel
theorem d_M_readsBarge_97 : decode b_M_readsBarge 97 = .ok (.bipush 9, 2) := by decide +kernel
theorem d_M_readsBarge_99 : decode b_M_readsBarge 99 = .ok (.invokevirtual 229, 3) := by decide +kernel
theorem d_M_readsBarge_102 : decode b_M_readsBarge 102 = .ok (.istore 7, 2) := by decide +kernel
theorem d_M_readsBarge_104 : decode b_M_readsBarge 104 = .ok (.iload 7, 2) := by decide +kernel
theorem d_M_readsBarge_106 : decode b_M_readsBarge 106 = .ok (.ifCond .eq 7, 3) := by decide +kernel
theorem d_M_readsBarge_109 : decode b_M_readsBarge 109 = .ok (.aload_n 0, 1) := by decide +kernel
theorem d_M_readsBarge_110 : decode b_M_readsBarge 110 = .ok (.invokevirtual 223, 3) := by decide +kernel
theorem d_M_readsBarge_113 : decode b_M_readsBarge 113 = .ok (.aload_n 0, 1) := by decide +kernel
theorem d_M_readsBarge_114 : decode b_M_readsBarge 114 = .ok (.getfield 213, 3) := by decide +kernel
theorem d_M_readsBarge_117 : decode b_M_readsBarge 117 = .ok (.iconst 3, 1) := by decide +kernel
theorem d_M_readsBarge_118 : decode b_M_readsBarge 118 = .ok (.if_icmp .ne 29, 3) := by decide +kernel
theorem d_M_readsBarge_121 : decode b_M_readsBarge 121 = .ok (.iload_n 3, 1) := by decide +kernel
theorem d_M_readsBarge_122 : decode b_M_readsBarge 122 = .ok (.ifCond .eq 25, 3) := by decide +kernel
theorem d_M_readsBarge_125 : decode b_M_readsBarge 125 = .ok (.aload_n 0, 1) := by decide +kernel
theorem d_M_readsBarge_126 : decode b_M_readsBarge 126 = .ok (.iload_n 1, 1) := by decide +kernel
theorem d_M_readsBarge_127 : decode b_M_readsBarge 127 = .ok (.iload 6, 2) := by decide +kernel
theorem d_M_readsBarge_129 : decode b_M_readsBarge 129 = .ok (.iload 7, 2) := by decide +kernel
theorem d_M_readsBarge_131 : decode b_M_readsBarge 131 = .ok (.ifCond .eq 7, 3) := by decide +kernel
theorem d_M_readsBarge_134 : decode b_M_readsBarge 134 = .ok (.iconst 1, 1) := by decide +kernel
theorem d_M_readsBarge_135 : decode b_M_readsBarge 135 = .ok (.goto 4, 3) := by decide +kernel
theorem d_M_readsBarge_138 : decode b_M_readsBarge 138 = .ok (.iconst 0, 1) := by decide +kernel
theorem d_M_readsBarge_139 : decode b_M_readsBarge 139 = .ok (.iload 4, 2) := by decide +kernel
theorem d_M_readsBarge_141 : decode b_M_readsBarge 141 = .ok (.iload 5, 2) := by decide +kernel
theorem d_M_readsBarge_143 : decode b_M_readsBarge 143 = .ok (.invokevirtual 114, 3) := by decide +kernel
theorem d_M_readsBarge_146 : decode b_M_readsBarge 146 = .ok (.pop, 1) := by decide +kernel
theorem d_M_readsBarge_147 : decode b_M_readsBarge 147 = .ok (.aload_n 0, 1) := by decide +kernel
theorem d_M_readsBarge_148 : decode b_M_readsBarge 148 = .ok (.getfield 213, 3) := by decide +kernel
theorem d_M_readsBarge_151 : decode b_M_readsBarge 151 = .ok (.iconst 3, 1) := by decide +kernel
theorem d_M_readsBarge_152 : decode b_M_readsBarge 152 = .ok (.if_icmp .ne 7, 3) := by decide +kernel
theorem d_M_readsBarge_155 : decode b_M_readsBarge 155 = .ok (.iconst 1, 1) := by decide +kernel
theorem d_M_readsBarge_156 : decode b_M_readsBarge 156 = .ok (.goto 4, 3) := by decide +kernel
theorem d_M_readsBarge_159 : decode b_M_readsBarge 159 = .ok (.iconst 0, 1) := by decide +kernel
theorem d_M_readsBarge_160 : decode b_M_readsBarge 160 = .ok (.ireturn, 1) := by decide +kernel
theorem d_M_readsNoise_0 : decode b_M_readsNoise 0 = .ok (.aload_n 0, 1) := by decide +kernel
theorem d_M_readsNoise_1 : decode b_M_readsNoise 1 = .ok (.bipush 9, 2) := by decide +kernel
theorem d_M_readsNoise_3 : decode b_M_readsNoise 3 = .ok (.invokevirtual 235, 3) := by decide +kernel
theorem d_M_readsNoise_6 : decode b_M_readsNoise 6 = .ok (.ifCond .ne 5, 3) := by decide +kernel
theorem d_M_readsNoise_9 : decode b_M_readsNoise 9 = .ok (.iconst 0, 1) := by decide +kernel
theorem d_M_readsNoise_10 : decode b_M_readsNoise 10 = .ok (.ireturn, 1) := by decide +kernel
theorem d_M_readsNoise_11 : decode b_M_readsNoise 11 = .ok (.aload_n 0, 1) := by decide +kernel
theorem d_M_readsNoise_12 : decode b_M_readsNoise 12 = .ok (.getfield 226, 3) := by decide +kernel
theorem d_M_readsNoise_15 : decode b_M_readsNoise 15 = .ok (.istore_n 2, 1) := by decide +kernel
theorem d_M_readsNoise_16 : decode b_M_readsNoise 16 = .ok (.aload_n 0, 1) := by decide +kernel
theorem d_M_readsNoise_17 : decode b_M_readsNoise 17 = .ok (.bipush 10, 2) := by decide +kernel
theorem d_M_readsNoise_19 : decode b_M_readsNoise 19 = .ok (.invokevirtual 232, 3) := by decide +kernel
theorem d_M_readsNoise_22 : decode b_M_readsNoise 22 = .ok (.ifCond .eq 12, 3) := by decide +kernel
theorem d_M_readsNoise_25 : decode b_M_readsNoise 25 = .ok (.aload_n 0, 1) := by decide +kernel
theorem d_M_readsNoise_26 : decode b_M_readsNoise 26 = .ok (.bipush 9, 2) := by decide +kernel
theorem d_M_readsNoise_28 : decode b_M_readsNoise 28 = .ok (.invokevirtual 235, 3) := by decide +kernel
theorem d_M_readsNoise_31 : decode b_M_readsNoise 31 = .ok (.ifCond .ne 5, 3) := by decide +kernel
theorem d_M_readsNoise_34 : decode b_M_readsNoise 34 = .ok (.iconst 0, 1) := by decide +kernel
theorem d_M_readsNoise_35 : decode b_M_readsNoise 35 = .ok (.ireturn, 1) := by decide +kernel
theorem d_M_readsNoise_36 : decode b_M_readsNoise 36 = .ok (.aload_n 0, 1) := by decide +kernel
theorem d_M_readsNoise_37 : decode b_M_readsNoise 37 = .ok (.getfield 226, 3) := by decide +kernel
theorem d_M_readsNoise_40 : decode b_M_readsNoise 40 = .ok (.istore_n 3, 1) := by decide +kernel
theorem d_M_readsNoise_41 : decode b_M_readsNoise 41 = .ok (.aload_n 0, 1) := by decide +kernel
theorem d_M_readsNoise_42 : decode b_M_readsNoise 42 = .ok (.invokevirtual 223, 3) := by decide +kernel
theorem d_M_readsNoise_45 : decode b_M_readsNoise 45 = .ok (.aload_n 0, 1) := by decide +kernel
theorem d_M_readsNoise_46 : decode b_M_readsNoise 46 = .ok (.getfield 213, 3) := by decide +kernel
theorem d_M_readsNoise_49 : decode b_M_readsNoise 49 = .ok (.iconst 3, 1) := by decide +kernel
theorem d_M_readsNoise_50 : decode b_M_readsNoise 50 = .ok (.if_icmp .ne 17, 3) := by decide +kernel
theorem d_M_readsNoise_53 : decode b_M_readsNoise 53 = .ok (.iload_n 1, 1) := by decide +kernel
theorem d_M_readsNoise_54 : decode b_M_readsNoise 54 = .ok (.ifCond .eq 13, 3) := by decide +kernel
theorem d_M_readsNoise_57 : decode b_M_readsNoise 57 = .ok (.aload_n 0, 1) := by decide +kernel
theorem d_M_readsNoise_58 : decode b_M_readsNoise 58 = .ok (.getfield 7, 3) := by decide +kernel
theorem d_M_readsNoise_61 : decode b_M_readsNoise 61 = .ok (.bipush 7, 2) := by decide +kernel
theorem d_M_readsNoise_63 : decode b_M_readsNoise 63 = .ok (.iload_n 2, 1) := by decide +kernel
theorem d_M_readsNoise_64 : decode b_M_readsNoise 64 = .ok (.iadd, 1) := by decide +kernel
theorem d_M_readsNoise_65 : decode b_M_readsNoise 65 = .ok (.iload_n 3, 1) := by decide +kernel
theorem d_M_readsNoise_66 : decode b_M_readsNoise 66 = .ok (.iastore, 1) := by decide +kernel
theorem d_M_readsNoise_67 : decode b_M_readsNoise 67 = .ok (.aload_n 0, 1) := by decide +kernel
theorem d_M_readsNoise_68 : decode b_M_readsNoise 68 = .ok (.getfield 213, 3) := by decide +kernel
theorem d_M_readsNoise_71 : decode b_M_readsNoise 71 = .ok (.iconst 3, 1) := by decide +kernel
theorem d_M_readsNoise_72 : decode b_M_readsNoise 72 = .ok (.if_icmp .ne 7, 3) := by decide +kernel
theorem d_M_readsNoise_75 : decode b_M_readsNoise 75 = .ok (.iconst 1, 1) := by decide +kernel
theorem d_M_readsNoise_76 : decode b_M_readsNoise 76 = .ok (.goto 4, 3) := by decide +kernel
theorem d_M_readsNoise_79 : decode b_M_readsNoise 79 = .ok (.iconst 0, 1) := by decide +kernel
theorem d_M_readsNoise_80 : decode b_M_readsNoise 80 = .ok (.ireturn, 1) := by decide +kernel
theorem d_M_readsLaw_0 : decode b_M_readsLaw 0 = .ok (.aload_n 0, 1) := by decide +kernel
theorem d_M_readsLaw_1 : decode b_M_readsLaw 1 = .ok (.iload_n 1, 1) := by decide +kernel
theorem d_M_readsLaw_2 : decode b_M_readsLaw 2 = .ok (.iconst 3, 1) := by decide +kernel
theorem d_M_readsLaw_3 : decode b_M_readsLaw 3 = .ok (.if_icmp .ne 8, 3) := by decide +kernel
theorem d_M_readsLaw_6 : decode b_M_readsLaw 6 = .ok (.bipush 99, 2) := by decide +kernel
theorem d_M_readsLaw_8 : decode b_M_readsLaw 8 = .ok (.goto 5, 3) := by decide +kernel
theorem d_M_readsLaw_11 : decode b_M_readsLaw 11 = .ok (.bipush 9, 2) := by decide +kernel
theorem d_M_readsLaw_13 : decode b_M_readsLaw 13 = .ok (.invokevirtual 235, 3) := by decide +kernel
theorem d_M_readsLaw_16 : decode b_M_readsLaw 16 = .ok (.ifCond .ne 5, 3) := by decide +kernel
theorem d_M_readsLaw_19 : decode b_M_readsLaw 19 = .ok (.iconst 0, 1) := by decide +kernel
theorem d_M_readsLaw_20 : decode b_M_readsLaw 20 = .ok (.ireturn, 1) := by decide +kernel
theorem d_M_readsLaw_21 : decode b_M_readsLaw 21 = .ok (.aload_n 0, 1) := by decide +kernel
theorem d_M_readsLaw_22 : decode b_M_readsLaw 22 = .ok (.getfield 226, 3) := by decide +kernel
theorem d_M_readsLaw_25 : decode b_M_readsLaw 25 = .ok (.istore_n 3, 1) := by decide +kernel
theorem d_M_readsLaw_26 : decode b_M_readsLaw 26 = .ok (.aload_n 0, 1) := by decide +kernel
theorem d_M_readsLaw_27 : decode b_M_readsLaw 27 = .ok (.invokevirtual 223, 3) := by decide +kernel
theorem d_M_readsLaw_30 : decode b_M_readsLaw 30 = .ok (.aload_n 0, 1) := by decide +kernel
theorem d_M_readsLaw_31 : decode b_M_readsLaw 31 = .ok (.getfield 213, 3) := by decide +kernel
theorem d_M_readsLaw_34 : decode b_M_readsLaw 34 = .ok (.iconst 3, 1) := by decide +kernel
theorem d_M_readsLaw_35 : decode b_M_readsLaw 35 = .ok (.if_icmp .ne 14, 3) := by decide +kernel
theorem d_M_readsLaw_38 : decode b_M_readsLaw 38 = .ok (.iload_n 2, 1) := by decide +kernel
theorem d_M_readsLaw_39 : decode b_M_readsLaw 39 = .ok (.ifCond .eq 10, 3) := by decide +kernel
theorem d_M_readsLaw_42 : decode b_M_readsLaw 42 = .ok (.aload_n 0, 1) := by decide +kernel
theorem d_M_readsLaw_43 : decode b_M_readsLaw 43 = .ok (.getfield 7, 3) := by decide +kernel
theorem d_M_readsLaw_46 : decode b_M_readsLaw 46 = .ok (.iload_n 1, 1) := by decide +kernel
theorem d_M_readsLaw_47 : decode b_M_readsLaw 47 = .ok (.iload_n 3, 1) := by decide +kernel
theorem d_M_readsLaw_48 : decode b_M_readsLaw 48 = .ok (.iastore, 1) := by decide +kernel
theorem d_M_readsLaw_49 : decode b_M_readsLaw 49 = .ok (.aload_n 0, 1) := by decide +kernel
theorem d_M_readsLaw_50 : decode b_M_readsLaw 50 = .ok (.getfield 213, 3) := by decide +kernel
theorem d_M_readsLaw_53 : decode b_M_readsLaw 53 = .ok (.iconst 3, 1) := by decide +kernel
theorem d_M_readsLaw_54 : decode b_M_readsLaw 54 = .ok (.if_icmp .ne 7, 3) := by decide +kernel
theorem d_M_readsLaw_57 : decode b_M_readsLaw 57 = .ok (.iconst 1, 1) := by decide +kernel
theorem d_M_readsLaw_58 : decode b_M_readsLaw 58 = .ok (.goto 4, 3) := by decide +kernel
theorem d_M_readsLaw_61 : decode b_M_readsLaw 61 = .ok (.iconst 0, 1) := by decide +kernel
theorem d_M_readsLaw_62 : decode b_M_readsLaw 62 = .ok (.ireturn, 1) := by decide +kernel
theorem d_M_readsAll_0 : decode b_M_readsAll 0 = .ok (.aload_n 0, 1) := by decide +kernel
theorem d_M_readsAll_1 : decode b_M_readsAll 1 = .ok (.iconst 0, 1) := by decide +kernel
theorem d_M_readsAll_2 : decode b_M_readsAll 2 = .ok (.putfield 204, 3) := by decide +kernel
theorem d_M_readsAll_5 : decode b_M_readsAll 5 = .ok (.iconst 0, 1) := by decide +kernel
theorem d_M_readsAll_6 : decode b_M_readsAll 6 = .ok (.istore_n 2, 1) := by decide +kernel
theorem d_M_readsAll_7 : decode b_M_readsAll 7 = .ok (.iconst 1, 1) := by decide +kernel
theorem d_M_readsAll_8 : decode b_M_readsAll 8 = .ok (.istore_n 3, 1) := by decide +kernel
theorem d_M_readsAll_9 : decode b_M_readsAll 9 = .ok (.iload_n 3, 1) := by decide +kernel
theorem d_M_readsAll_10 : decode b_M_readsAll 10 = .ok (.ifCond .eq 107, 3) := by decide +kernel
theorem d_M_readsAll_13 : decode b_M_readsAll 13 = .ok (.aload_n 0, 1) := by decide +kernel
theorem d_M_readsAll_14 : decode b_M_readsAll 14 = .ok (.invokevirtual 223, 3) := by decide +kernel
theorem d_M_readsAll_17 : decode b_M_readsAll 17 = .ok (.aload_n 0, 1) := by decide +kernel
theorem d_M_readsAll_18 : decode b_M_readsAll 18 = .ok (.getfield 213, 3) := by decide +kernel
theorem d_M_readsAll_21 : decode b_M_readsAll 21 = .ok (.ifCond .ne 5, 3) := by decide +kernel
theorem d_M_readsAll_24 : decode b_M_readsAll 24 = .ok (.iconst 1, 1) := by decide +kernel
theorem d_M_readsAll_25 : decode b_M_readsAll 25 = .ok (.ireturn, 1) := by decide +kernel
theorem d_M_readsAll_26 : decode b_M_readsAll 26 = .ok (.aload_n 0, 1) := by decide +kernel
theorem d_M_readsAll_27 : decode b_M_readsAll 27 = .ok (.getfield 213, 3) := by decide +kernel
theorem d_M_readsAll_30 : decode b_M_readsAll 30 = .ok (.iconst 1, 1) := by decide +kernel
theorem d_M_readsAll_31 : decode b_M_readsAll 31 = .ok (.if_icmp .ne 10, 3) := by decide +kernel
theorem d_M_readsAll_34 : decode b_M_readsAll 34 = .ok (.aload_n 0, 1) := by decide +kernel
theorem d_M_readsAll_35 : decode b_M_readsAll 35 = .ok (.getfield 210, 3) := by decide +kernel
theorem d_M_readsAll_38 : decode b_M_readsAll 38 = .ok (.goto 4, 3) := by decide +kernel
theorem d_M_readsAll_41 : decode b_M_readsAll 41 = .ok (.iconst (-1), 1) := by decide +kernel
theorem d_M_readsAll_42 : decode b_M_readsAll 42 = .ok (.istore 4, 2) := by decide +kernel
theorem d_M_readsAll_44 : decode b_M_readsAll 44 = .ok (.iload 4, 2) := by decide +kernel
theorem d_M_readsAll_46 : decode b_M_readsAll 46 = .ok (.i2l, 1) := by decide +kernel
theorem d_M_readsAll_47 : decode b_M_readsAll 47 = .ok (.lconst 0, 1) := by decide +kernel
theorem d_M_readsAll_48 : decode b_M_readsAll 48 = .ok (.ldc2_w 109, 3) := by decide +kernel
theorem d_M_readsAll_51 : decode b_M_readsAll 51 = .ok (.invokestatic 58, 3) := by decide +kernel
theorem d_M_readsAll_54 : decode b_M_readsAll 54 = .ok (.ifCond .eq 18, 3) := by decide +kernel
theorem d_M_readsAll_57 : decode b_M_readsAll 57 = .ok (.aload_n 0, 1) := by decide +kernel
theorem d_M_readsAll_58 : decode b_M_readsAll 58 = .ok (.iload 4, 2) := by decide +kernel
theorem d_M_readsAll_60 : decode b_M_readsAll 60 = .ok (.iload_n 2, 1) := by decide +kernel
theorem d_M_readsAll_61 : decode b_M_readsAll 61 = .ok (.iload_n 1, 1) := by decide +kernel
theorem d_M_readsAll_62 : decode b_M_readsAll 62 = .ok (.invokevirtual 238, 3) := by decide +kernel
theorem d_M_readsAll_65 : decode b_M_readsAll 65 = .ok (.istore_n 3, 1) := by decide +kernel
theorem d_M_readsAll_66 : decode b_M_readsAll 66 = .ok (.iinc 2 1, 3) := by decide +kernel
theorem d_M_readsAll_69 : decode b_M_readsAll 69 = .ok (.goto 45, 3) := by decide +kernel
theorem d_M_readsAll_72 : decode b_M_readsAll 72 = .ok (.iload 4, 2) := by decide +kernel
theorem d_M_readsAll_74 : decode b_M_readsAll 74 = .ok (.bipush 11, 2) := by decide +kernel
theorem d_M_readsAll_76 : decode b_M_readsAll 76 = .ok (.if_icmp .ne 12, 3) := by decide +kernel
theorem d_M_readsAll_79 : decode b_M_readsAll 79 = .ok (.aload_n 0, 1) := by decide +kernel
theorem d_M_readsAll_80 : decode b_M_readsAll 80 = .ok (.iload_n 1, 1) := by decide +kernel
theorem d_M_readsAll_81 : decode b_M_readsAll 81 = .ok (.invokevirtual 242, 3) := by decide +kernel
theorem d_M_readsAll_84 : decode b_M_readsAll 84 = .ok (.istore_n 3, 1) := by decide +kernel
theorem d_M_readsAll_85 : decode b_M_readsAll 85 = .ok (.goto 29, 3) := by decide +kernel
theorem d_M_readsAll_88 : decode b_M_readsAll 88 = .ok (.iload 4, 2) := by decide +kernel
theorem d_M_readsAll_90 : decode b_M_readsAll 90 = .ok (.bipush 12, 2) := by decide +kernel
theorem d_M_readsAll_92 : decode b_M_readsAll 92 = .ok (.if_icmp .lt 20, 3) := by decide +kernel
theorem d_M_readsAll_95 : decode b_M_readsAll 95 = .ok (.aload_n 0, 1) := by decide +kernel
theorem d_M_readsAll_96 : decode b_M_readsAll 96 = .ok (.iload 4, 2) := by decide +kernel
theorem d_M_readsAll_98 : decode b_M_readsAll 98 = .ok (.bipush 12, 2) := by decide +kernel
theorem d_M_readsAll_100 : decode b_M_readsAll 100 = .ok (.isub, 1) := by decide +kernel
theorem d_M_readsAll_101 : decode b_M_readsAll 101 = .ok (.iload_n 1, 1) := by decide +kernel
theorem d_M_readsAll_102 : decode b_M_readsAll 102 = .ok (.invokevirtual 246, 3) := by decide +kernel
theorem d_M_readsAll_105 : decode b_M_readsAll 105 = .ok (.ifCond .eq 7, 3) := by decide +kernel
theorem d_M_readsAll_108 : decode b_M_readsAll 108 = .ok (.iconst 1, 1) := by decide +kernel
theorem d_M_readsAll_109 : decode b_M_readsAll 109 = .ok (.goto 4, 3) := by decide +kernel
theorem d_M_readsAll_112 : decode b_M_readsAll 112 = .ok (.iconst 0, 1) := by decide +kernel
theorem d_M_readsAll_113 : decode b_M_readsAll 113 = .ok (.istore_n 3, 1) := by decide +kernel
theorem d_M_readsAll_114 : decode b_M_readsAll 114 = .ok (.goto (-105), 3) := by decide +kernel
theorem d_M_readsAll_117 : decode b_M_readsAll 117 = .ok (.iconst 0, 1) := by decide +kernel
theorem d_M_readsAll_118 : decode b_M_readsAll 118 = .ok (.ireturn, 1) := by decide +kernel
theorem d_M_canal_0 : decode b_M_canal 0 = .ok (.aload_n 0, 1) := by decide +kernel
theorem d_M_canal_1 : decode b_M_canal 1 = .ok (.iconst 0, 1) := by decide +kernel
theorem d_M_canal_2 : decode b_M_canal 2 = .ok (.invokevirtual 250, 3) := by decide +kernel
theorem d_M_canal_5 : decode b_M_canal 5 = .ok (.istore_n 1, 1) := by decide +kernel
theorem d_M_canal_6 : decode b_M_canal 6 = .ok (.aload_n 0, 1) := by decide +kernel
theorem d_M_canal_7 : decode b_M_canal 7 = .ok (.getfield 207, 3) := by decide +kernel
theorem d_M_canal_10 : decode b_M_canal 10 = .ok (.istore_n 2, 1) := by decide +kernel
theorem d_M_canal_11 : decode b_M_canal 11 = .ok (.iload_n 1, 1) := by decide +kernel
theorem d_M_canal_12 : decode b_M_canal 12 = .ok (.ifCond .eq 18, 3) := by decide +kernel
theorem d_M_canal_15 : decode b_M_canal 15 = .ok (.aload_n 0, 1) := by decide +kernel
theorem d_M_canal_16 : decode b_M_canal 16 = .ok (.invokevirtual 55, 3) := by decide +kernel
theorem d_M_canal_19 : decode b_M_canal 19 = .ok (.aload_n 0, 1) := by decide +kernel
theorem d_M_canal_20 : decode b_M_canal 20 = .ok (.iconst 1, 1) := by decide +kernel
theorem d_M_canal_21 : decode b_M_canal 21 = .ok (.invokevirtual 250, 3) := by decide +kernel
theorem d_M_canal_24 : decode b_M_canal 24 = .ok (.istore_n 1, 1) := by decide +kernel
theorem d_M_canal_25 : decode b_M_canal 25 = .ok (.aload_n 0, 1) := by decide +kernel
theorem d_M_canal_26 : decode b_M_canal 26 = .ok (.iconst 0, 1) := by decide +kernel
theorem d_M_canal_27 : decode b_M_canal 27 = .ok (.putfield 253, 3) := by decide +kernel
theorem d_M_canal_30 : decode b_M_canal 30 = .ok (.aload_n 0, 1) := by decide +kernel
theorem d_M_canal_31 : decode b_M_canal 31 = .ok (.iconst 0, 1) := by decide +kernel
theorem d_M_canal_32 : decode b_M_canal 32 = .ok (.putfield 199, 3) := by decide +kernel
theorem d_M_canal_35 : decode b_M_canal 35 = .ok (.iload_n 1, 1) := by decide +kernel
theorem d_M_canal_36 : decode b_M_canal 36 = .ok (.ifCond .eq 12, 3) := by decide +kernel
theorem d_M_canal_39 : decode b_M_canal 39 = .ok (.aload_n 0, 1) := by decide +kernel
theorem d_M_canal_40 : decode b_M_canal 40 = .ok (.getfield 7, 3) := by decide +kernel
theorem d_M_canal_43 : decode b_M_canal 43 = .ok (.iconst 4, 1) := by decide +kernel
theorem d_M_canal_44 : decode b_M_canal 44 = .ok (.iaload, 1) := by decide +kernel
theorem d_M_canal_45 : decode b_M_canal 45 = .ok (.goto 7, 3) := by decide +kernel
theorem d_M_canal_48 : decode b_M_canal 48 = .ok (.bipush (-100), 2) := by decide +kernel
theorem d_M_canal_50 : decode b_M_canal 50 = .ok (.iload_n 2, 1) := by decide +kernel
theorem d_M_canal_51 : decode b_M_canal 51 = .ok (.isub, 1) := by decide +kernel
theorem d_M_canal_52 : decode b_M_canal 52 = .ok (.ireturn, 1) := by decide +kernel
theorem d_M_mustBe_0 : decode b_M_mustBe 0 = .ok (.iload_n 2, 1) := by decide +kernel
theorem d_M_mustBe_1 : decode b_M_mustBe 1 = .ok (.ifCond .ne 12, 3) := by decide +kernel
theorem d_M_mustBe_4 : decode b_M_mustBe 4 = .ok (.aload_n 0, 1) := by decide +kernel
theorem d_M_mustBe_5 : decode b_M_mustBe 5 = .ok (.iload_n 1, 1) := by decide +kernel
theorem d_M_mustBe_6 : decode b_M_mustBe 6 = .ok (.iconst 3, 1) := by decide +kernel
theorem d_M_mustBe_7 : decode b_M_mustBe 7 = .ok (.invokevirtual 64, 3) := by decide +kernel
theorem d_M_mustBe_10 : decode b_M_mustBe 10 = .ok (.goto 21, 3) := by decide +kernel
theorem d_M_mustBe_13 : decode b_M_mustBe 13 = .ok (.iload_n 2, 1) := by decide +kernel
theorem d_M_mustBe_14 : decode b_M_mustBe 14 = .ok (.iconst 1, 1) := by decide +kernel
theorem d_M_mustBe_15 : decode b_M_mustBe 15 = .ok (.if_icmp .ne 12, 3) := by decide +kernel
theorem d_M_mustBe_18 : decode b_M_mustBe 18 = .ok (.aload_n 0, 1) := by decide +kernel
theorem d_M_mustBe_19 : decode b_M_mustBe 19 = .ok (.iload_n 1, 1) := by decide +kernel
theorem d_M_mustBe_20 : decode b_M_mustBe 20 = .ok (.iconst 1, 1) := by decide +kernel
theorem d_M_mustBe_21 : decode b_M_mustBe 21 = .ok (.invokevirtual 64, 3) := by decide +kernel
theorem d_M_mustBe_24 : decode b_M_mustBe 24 = .ok (.goto 7, 3) := by decide +kernel
theorem d_M_mustBe_27 : decode b_M_mustBe 27 = .ok (.aload_n 0, 1) := by decide +kernel
theorem d_M_mustBe_28 : decode b_M_mustBe 28 = .ok (.invokevirtual 150, 3) := by decide +kernel
theorem d_M_mustBe_31 : decode b_M_mustBe 31 = .ok (.ireturn, 1) := by decide +kernel
theorem d_M_prove_0 : decode b_M_prove 0 = .ok (.aload_n 0, 1) := by decide +kernel
theorem d_M_prove_1 : decode b_M_prove 1 = .ok (.iload_n 1, 1) := by decide +kernel
theorem d_M_prove_2 : decode b_M_prove 2 = .ok (.invokevirtual 118, 3) := by decide +kernel
theorem d_M_prove_5 : decode b_M_prove 5 = .ok (.ifCond .eq 15, 3) := by decide +kernel
theorem d_M_prove_8 : decode b_M_prove 8 = .ok (.iload_n 2, 1) := by decide +kernel
theorem d_M_prove_9 : decode b_M_prove 9 = .ok (.i2l, 1) := by decide +kernel
theorem d_M_prove_10 : decode b_M_prove 10 = .ok (.lconst 1, 1) := by decide +kernel
theorem d_M_prove_11 : decode b_M_prove 11 = .ok (.ldc2_w 256, 3) := by decide +kernel
theorem d_M_prove_14 : decode b_M_prove 14 = .ok (.invokestatic 58, 3) := by decide +kernel
theorem d_M_prove_17 : decode b_M_prove 17 = .ok (.ifCond .ne 5, 3) := by decide +kernel
theorem d_M_prove_20 : decode b_M_prove 20 = .ok (.iconst (-1), 1) := by decide +kernel
theorem d_M_prove_21 : decode b_M_prove 21 = .ok (.ireturn, 1) := by decide +kernel
theorem d_M_prove_22 : decode b_M_prove 22 = .ok (.aload_n 0, 1) := by decide +kernel
theorem d_M_prove_23 : decode b_M_prove 23 = .ok (.invokevirtual 138, 3) := by decide +kernel
theorem d_M_prove_26 : decode b_M_prove 26 = .ok (.aload_n 0, 1) := by decide +kernel
theorem d_M_prove_27 : decode b_M_prove 27 = .ok (.iload_n 2, 1) := by decide +kernel
theorem d_M_prove_28 : decode b_M_prove 28 = .ok (.putfield 253, 3) := by decide +kernel
theorem d_M_prove_31 : decode b_M_prove 31 = .ok (.iconst 0, 1) := by decide +kernel
theorem d_M_prove_32 : decode b_M_prove 32 = .ok (.istore_n 3, 1) := by decide +kernel
theorem d_M_prove_33 : decode b_M_prove 33 = .ok (.iload_n 3, 1) := by decide +kernel
theorem d_M_prove_34 : decode b_M_prove 34 = .ok (.iload_n 2, 1) := by decide +kernel
theorem d_M_prove_35 : decode b_M_prove 35 = .ok (.if_icmp .ge 46, 3) := by decide +kernel
theorem d_M_prove_38 : decode b_M_prove 38 = .ok (.aload_n 0, 1) := by decide +kernel
theorem d_M_prove_39 : decode b_M_prove 39 = .ok (.invokevirtual 95, 3) := by decide +kernel
theorem d_M_prove_42 : decode b_M_prove 42 = .ok (.iconst 0, 1) := by decide +kernel
theorem d_M_prove_43 : decode b_M_prove 43 = .ok (.istore 4, 2) := by decide +kernel
theorem d_M_prove_45 : decode b_M_prove 45 = .ok (.iload 4, 2) := by decide +kernel
theorem d_M_prove_47 : decode b_M_prove 47 = .ok (.iconst 3, 1) := by decide +kernel
theorem d_M_prove_48 : decode b_M_prove 48 = .ok (.if_icmp .ge 27, 3) := by decide +kernel
theorem d_M_prove_51 : decode b_M_prove 51 = .ok (.aload_n 0, 1) := by decide +kernel
theorem d_M_prove_52 : decode b_M_prove 52 = .ok (.getfield 30, 3) := by decide +kernel
theorem d_M_prove_55 : decode b_M_prove 55 = .ok (.iconst 3, 1) := by decide +kernel
theorem d_M_prove_56 : decode b_M_prove 56 = .ok (.iload_n 3, 1) := by decide +kernel
theorem d_M_prove_57 : decode b_M_prove 57 = .ok (.imul, 1) := by decide +kernel
theorem d_M_prove_58 : decode b_M_prove 58 = .ok (.iload 4, 2) := by decide +kernel
theorem d_M_prove_60 : decode b_M_prove 60 = .ok (.iadd, 1) := by decide +kernel
theorem d_M_prove_61 : decode b_M_prove 61 = .ok (.aload_n 0, 1) := by decide +kernel
theorem d_M_prove_62 : decode b_M_prove 62 = .ok (.iload_n 1, 1) := by decide +kernel
theorem d_M_prove_63 : decode b_M_prove 63 = .ok (.iload 4, 2) := by decide +kernel
theorem d_M_prove_65 : decode b_M_prove 65 = .ok (.invokevirtual 258, 3) := by decide +kernel
theorem d_M_prove_68 : decode b_M_prove 68 = .ok (.iastore, 1) := by decide +kernel
theorem d_M_prove_69 : decode b_M_prove 69 = .ok (.iinc 4 1, 3) := by decide +kernel
theorem d_M_prove_72 : decode b_M_prove 72 = .ok (.goto (-27), 3) := by decide +kernel
theorem d_M_prove_75 : decode b_M_prove 75 = .ok (.iinc 3 1, 3) := by decide +kernel
theorem d_M_prove_78 : decode b_M_prove 78 = .ok (.goto (-45), 3) := by decide +kernel
theorem d_M_prove_81 : decode b_M_prove 81 = .ok (.aload_n 0, 1) := by decide +kernel
theorem d_M_prove_82 : decode b_M_prove 82 = .ok (.invokevirtual 147, 3) := by decide +kernel
theorem d_M_prove_85 : decode b_M_prove 85 = .ok (.iload_n 2, 1) := by decide +kernel
theorem d_M_prove_86 : decode b_M_prove 86 = .ok (.ireturn, 1) := by decide +kernel
theorem d_M_row_0 : decode b_M_row 0 = .ok (.iload_n 1, 1) := by decide +kernel
theorem d_M_row_1 : decode b_M_row 1 = .ok (.i2l, 1) := by decide +kernel
theorem d_M_row_2 : decode b_M_row 2 = .ok (.lconst 0, 1) := by decide +kernel
theorem d_M_row_3 : decode b_M_row 3 = .ok (.aload_n 0, 1) := by decide +kernel
theorem d_M_row_4 : decode b_M_row 4 = .ok (.getfield 253, 3) := by decide +kernel
theorem d_M_row_7 : decode b_M_row 7 = .ok (.iconst 1, 1) := by decide +kernel
theorem d_M_row_8 : decode b_M_row 8 = .ok (.isub, 1) := by decide +kernel
theorem d_M_row_9 : decode b_M_row 9 = .ok (.i2l, 1) := by decide +kernel
theorem d_M_row_10 : decode b_M_row 10 = .ok (.invokestatic 58, 3) := by decide +kernel
theorem d_M_row_13 : decode b_M_row 13 = .ok (.ifCond .eq 28, 3) := by decide +kernel
theorem d_M_row_16 : decode b_M_row 16 = .ok (.iload_n 2, 1) := by decide +kernel
theorem d_M_row_17 : decode b_M_row 17 = .ok (.i2l, 1) := by decide +kernel
theorem d_M_row_18 : decode b_M_row 18 = .ok (.lconst 0, 1) := by decide +kernel
theorem d_M_row_19 : decode b_M_row 19 = .ok (.ldc2_w 121, 3) := by decide +kernel
theorem d_M_row_22 : decode b_M_row 22 = .ok (.invokestatic 58, 3) := by decide +kernel
theorem d_M_row_25 : decode b_M_row 25 = .ok (.ifCond .eq 16, 3) := by decide +kernel
theorem d_M_row_28 : decode b_M_row 28 = .ok (.aload_n 0, 1) := by decide +kernel
theorem d_M_row_29 : decode b_M_row 29 = .ok (.getfield 30, 3) := by decide +kernel
theorem d_M_row_32 : decode b_M_row 32 = .ok (.iconst 3, 1) := by decide +kernel
theorem d_M_row_33 : decode b_M_row 33 = .ok (.iload_n 1, 1) := by decide +kernel
theorem d_M_row_34 : decode b_M_row 34 = .ok (.imul, 1) := by decide +kernel
theorem d_M_row_35 : decode b_M_row 35 = .ok (.iload_n 2, 1) := by decide +kernel
theorem d_M_row_36 : decode b_M_row 36 = .ok (.iadd, 1) := by decide +kernel
theorem d_M_row_37 : decode b_M_row 37 = .ok (.iaload, 1) := by decide +kernel
theorem d_M_row_38 : decode b_M_row 38 = .ok (.goto 5, 3) := by decide +kernel
theorem d_M_row_41 : decode b_M_row 41 = .ok (.bipush (-9), 2) := by decide +kernel
theorem d_M_row_43 : decode b_M_row 43 = .ok (.ireturn, 1) := by decide +kernel
theorem d_M_alterRow_0 : decode b_M_alterRow 0 = .ok (.iload_n 1, 1) := by decide +kernel
theorem d_M_alterRow_1 : decode b_M_alterRow 1 = .ok (.i2l, 1) := by decide +kernel
theorem d_M_alterRow_2 : decode b_M_alterRow 2 = .ok (.lconst 0, 1) := by decide +kernel
theorem d_M_alterRow_3 : decode b_M_alterRow 3 = .ok (.aload_n 0, 1) := by decide +kernel
theorem d_M_alterRow_4 : decode b_M_alterRow 4 = .ok (.getfield 253, 3) := by decide +kernel
theorem d_M_alterRow_7 : decode b_M_alterRow 7 = .ok (.iconst 1, 1) := by decide +kernel
theorem d_M_alterRow_8 : decode b_M_alterRow 8 = .ok (.isub, 1) := by decide +kernel
theorem d_M_alterRow_9 : decode b_M_alterRow 9 = .ok (.i2l, 1) := by decide +kernel
theorem d_M_alterRow_10 : decode b_M_alterRow 10 = .ok (.invokestatic 58, 3) := by decide +kernel
theorem d_M_alterRow_13 : decode b_M_alterRow 13 = .ok (.ifCond .eq 15, 3) := by decide +kernel
theorem d_M_alterRow_16 : decode b_M_alterRow 16 = .ok (.iload_n 2, 1) := by decide +kernel
theorem d_M_alterRow_17 : decode b_M_alterRow 17 = .ok (.i2l, 1) := by decide +kernel
theorem d_M_alterRow_18 : decode b_M_alterRow 18 = .ok (.lconst 0, 1) := by decide +kernel
theorem d_M_alterRow_19 : decode b_M_alterRow 19 = .ok (.ldc2_w 121, 3) := by decide +kernel
theorem d_M_alterRow_22 : decode b_M_alterRow 22 = .ok (.invokestatic 58, 3) := by decide +kernel
theorem d_M_alterRow_25 : decode b_M_alterRow 25 = .ok (.ifCond .ne 6, 3) := by decide +kernel
theorem d_M_alterRow_28 : decode b_M_alterRow 28 = .ok (.bipush (-9), 2) := by decide +kernel
theorem d_M_alterRow_30 : decode b_M_alterRow 30 = .ok (.ireturn, 1) := by decide +kernel
theorem d_M_alterRow_31 : decode b_M_alterRow 31 = .ok (.aload_n 0, 1) := by decide +kernel
theorem d_M_alterRow_32 : decode b_M_alterRow 32 = .ok (.getfield 30, 3) := by decide +kernel
theorem d_M_alterRow_35 : decode b_M_alterRow 35 = .ok (.iconst 3, 1) := by decide +kernel
theorem d_M_alterRow_36 : decode b_M_alterRow 36 = .ok (.iload_n 1, 1) := by decide +kernel
theorem d_M_alterRow_37 : decode b_M_alterRow 37 = .ok (.imul, 1) := by decide +kernel
theorem d_M_alterRow_38 : decode b_M_alterRow 38 = .ok (.iload_n 2, 1) := by decide +kernel
theorem d_M_alterRow_39 : decode b_M_alterRow 39 = .ok (.iadd, 1) := by decide +kernel
theorem d_M_alterRow_40 : decode b_M_alterRow 40 = .ok (.iaload, 1) := by decide +kernel
theorem d_M_alterRow_41 : decode b_M_alterRow 41 = .ok (.istore 4, 2) := by decide +kernel
theorem d_M_alterRow_43 : decode b_M_alterRow 43 = .ok (.aload_n 0, 1) := by decide +kernel
theorem d_M_alterRow_44 : decode b_M_alterRow 44 = .ok (.getfield 30, 3) := by decide +kernel
theorem d_M_alterRow_47 : decode b_M_alterRow 47 = .ok (.iconst 3, 1) := by decide +kernel
theorem d_M_alterRow_48 : decode b_M_alterRow 48 = .ok (.iload_n 1, 1) := by decide +kernel
theorem d_M_alterRow_49 : decode b_M_alterRow 49 = .ok (.imul, 1) := by decide +kernel
theorem d_M_alterRow_50 : decode b_M_alterRow 50 = .ok (.iload_n 2, 1) := by decide +kernel
theorem d_M_alterRow_51 : decode b_M_alterRow 51 = .ok (.iadd, 1) := by decide +kernel
theorem d_M_alterRow_52 : decode b_M_alterRow 52 = .ok (.iload_n 3, 1) := by decide +kernel
theorem d_M_alterRow_53 : decode b_M_alterRow 53 = .ok (.iastore, 1) := by decide +kernel
theorem d_M_alterRow_54 : decode b_M_alterRow 54 = .ok (.iload 4, 2) := by decide +kernel
theorem d_M_alterRow_56 : decode b_M_alterRow 56 = .ok (.ireturn, 1) := by decide +kernel
theorem d_M_judge_0 : decode b_M_judge 0 = .ok (.aload_n 0, 1) := by decide +kernel
theorem d_M_judge_1 : decode b_M_judge 1 = .ok (.iload_n 1, 1) := by decide +kernel
theorem d_M_judge_2 : decode b_M_judge 2 = .ok (.invokevirtual 118, 3) := by decide +kernel
theorem d_M_judge_5 : decode b_M_judge 5 = .ok (.ifCond .ne 5, 3) := by decide +kernel
theorem d_M_judge_8 : decode b_M_judge 8 = .ok (.iconst (-1), 1) := by decide +kernel
theorem d_M_judge_9 : decode b_M_judge 9 = .ok (.ireturn, 1) := by decide +kernel
theorem d_M_judge_10 : decode b_M_judge 10 = .ok (.aload_n 0, 1) := by decide +kernel
theorem d_M_judge_11 : decode b_M_judge 11 = .ok (.invokevirtual 138, 3) := by decide +kernel
theorem d_M_judge_14 : decode b_M_judge 14 = .ok (.iconst 0, 1) := by decide +kernel
theorem d_M_judge_15 : decode b_M_judge 15 = .ok (.istore_n 2, 1) := by decide +kernel
theorem d_M_judge_16 : decode b_M_judge 16 = .ok (.iconst 0, 1) := by decide +kernel
theorem d_M_judge_17 : decode b_M_judge 17 = .ok (.istore_n 3, 1) := by decide +kernel
theorem d_M_judge_18 : decode b_M_judge 18 = .ok (.iload_n 3, 1) := by decide +kernel
theorem d_M_judge_19 : decode b_M_judge 19 = .ok (.aload_n 0, 1) := by decide +kernel
theorem d_M_judge_20 : decode b_M_judge 20 = .ok (.getfield 253, 3) := by decide +kernel
theorem d_M_judge_23 : decode b_M_judge 23 = .ok (.if_icmp .ge 61, 3) := by decide +kernel
theorem d_M_judge_26 : decode b_M_judge 26 = .ok (.iload_n 2, 1) := by decide +kernel
theorem d_M_judge_27 : decode b_M_judge 27 = .ok (.ifCond .ne 57, 3) := by decide +kernel
theorem d_M_judge_30 : decode b_M_judge 30 = .ok (.aload_n 0, 1) := by decide +kernel
theorem d_M_judge_31 : decode b_M_judge 31 = .ok (.invokevirtual 95, 3) := by decide +kernel
theorem d_M_judge_34 : decode b_M_judge 34 = .ok (.iconst 0, 1) := by decide +kernel
theorem d_M_judge_35 : decode b_M_judge 35 = .ok (.istore 4, 2) := by decide +kernel
theorem d_M_judge_37 : decode b_M_judge 37 = .ok (.iload 4, 2) := by decide +kernel
theorem d_M_judge_39 : decode b_M_judge 39 = .ok (.iconst 3, 1) := by decide +kernel
theorem d_M_judge_40 : decode b_M_judge 40 = .ok (.if_icmp .ge 38, 3) := by decide +kernel
theorem d_M_judge_43 : decode b_M_judge 43 = .ok (.aload_n 0, 1) := by decide +kernel
theorem d_M_judge_44 : decode b_M_judge 44 = .ok (.getfield 30, 3) := by decide +kernel
theorem d_M_judge_47 : decode b_M_judge 47 = .ok (.iconst 3, 1) := by decide +kernel
theorem d_M_judge_48 : decode b_M_judge 48 = .ok (.iload_n 3, 1) := by decide +kernel
theorem d_M_judge_49 : decode b_M_judge 49 = .ok (.imul, 1) := by decide +kernel
theorem d_M_judge_50 : decode b_M_judge 50 = .ok (.iload 4, 2) := by decide +kernel
theorem d_M_judge_52 : decode b_M_judge 52 = .ok (.iadd, 1) := by decide +kernel
theorem d_M_judge_53 : decode b_M_judge 53 = .ok (.iaload, 1) := by decide +kernel
theorem d_M_judge_54 : decode b_M_judge 54 = .ok (.aload_n 0, 1) := by decide +kernel
theorem d_M_judge_55 : decode b_M_judge 55 = .ok (.iload_n 1, 1) := by decide +kernel
theorem d_M_judge_56 : decode b_M_judge 56 = .ok (.iload 4, 2) := by decide +kernel
theorem d_M_judge_58 : decode b_M_judge 58 = .ok (.invokevirtual 258, 3) := by decide +kernel
theorem d_M_judge_61 : decode b_M_judge 61 = .ok (.if_icmp .ne 7, 3) := by decide +kernel
theorem d_M_judge_64 : decode b_M_judge 64 = .ok (.iload_n 2, 1) := by decide +kernel
theorem d_M_judge_65 : decode b_M_judge 65 = .ok (.goto 6, 3) := by decide +kernel
theorem d_M_judge_68 : decode b_M_judge 68 = .ok (.iload_n 3, 1) := by decide +kernel
theorem d_M_judge_69 : decode b_M_judge 69 = .ok (.iconst 1, 1) := by decide +kernel
theorem d_M_judge_70 : decode b_M_judge 70 = .ok (.iadd, 1) := by decide +kernel
theorem d_M_judge_71 : decode b_M_judge 71 = .ok (.istore_n 2, 1) := by decide +kernel
theorem d_M_judge_72 : decode b_M_judge 72 = .ok (.iinc 4 1, 3) := by decide +kernel
theorem d_M_judge_75 : decode b_M_judge 75 = .ok (.goto (-38), 3) := by decide +kernel
theorem d_M_judge_78 : decode b_M_judge 78 = .ok (.iinc 3 1, 3) := by decide +kernel
theorem d_M_judge_81 : decode b_M_judge 81 = .ok (.goto (-63), 3) := by decide +kernel
theorem d_M_judge_84 : decode b_M_judge 84 = .ok (.aload_n 0, 1) := by decide +kernel
theorem d_M_judge_85 : decode b_M_judge 85 = .ok (.invokevirtual 147, 3) := by decide +kernel
theorem d_M_judge_88 : decode b_M_judge 88 = .ok (.iload_n 2, 1) := by decide +kernel
theorem d_M_judge_89 : decode b_M_judge 89 = .ok (.ireturn, 1) := by decide +kernel
theorem d_M_minds_0 : decode b_M_minds 0 = .ok (.iload_n 1, 1) := by decide +kernel
theorem d_M_minds_1 : decode b_M_minds 1 = .ok (.invokestatic 178, 3) := by decide +kernel
theorem d_M_minds_4 : decode b_M_minds 4 = .ok (.ifCond .eq 37, 3) := by decide +kernel
theorem d_M_minds_7 : decode b_M_minds 7 = .ok (.aload_n 0, 1) := by decide +kernel
theorem d_M_minds_8 : decode b_M_minds 8 = .ok (.iload_n 3, 1) := by decide +kernel
theorem d_M_minds_9 : decode b_M_minds 9 = .ok (.invokevirtual 118, 3) := by decide +kernel
theorem d_M_minds_12 : decode b_M_minds 12 = .ok (.ifCond .eq 29, 3) := by decide +kernel
theorem d_M_minds_15 : decode b_M_minds 15 = .ok (.iload 4, 2) := by decide +kernel
theorem d_M_minds_17 : decode b_M_minds 17 = .ok (.i2l, 1) := by decide +kernel
theorem d_M_minds_18 : decode b_M_minds 18 = .ok (.lconst 0, 1) := by decide +kernel
theorem d_M_minds_19 : decode b_M_minds 19 = .ok (.ldc2_w 187, 3) := by decide +kernel
theorem d_M_minds_22 : decode b_M_minds 22 = .ok (.invokestatic 58, 3) := by decide +kernel
theorem d_M_minds_25 : decode b_M_minds 25 = .ok (.ifCond .eq 16, 3) := by decide +kernel
theorem d_M_minds_28 : decode b_M_minds 28 = .ok (.iload 4, 2) := by decide +kernel
theorem d_M_minds_30 : decode b_M_minds 30 = .ok (.aload_n 0, 1) := by decide +kernel
theorem d_M_minds_31 : decode b_M_minds 31 = .ok (.getfield 7, 3) := by decide +kernel
theorem d_M_minds_34 : decode b_M_minds 34 = .ok (.iconst 4, 1) := by decide +kernel
theorem d_M_minds_35 : decode b_M_minds 35 = .ok (.iaload, 1) := by decide +kernel
theorem d_M_minds_36 : decode b_M_minds 36 = .ok (.iload_n 3, 1) := by decide +kernel
theorem d_M_minds_37 : decode b_M_minds 37 = .ok (.isub, 1) := by decide +kernel
theorem d_M_minds_38 : decode b_M_minds 38 = .ok (.if_icmp .le 5, 3) := by decide +kernel
theorem d_M_minds_41 : decode b_M_minds 41 = .ok (.iconst (-1), 1) := by decide +kernel
theorem d_M_minds_42 : decode b_M_minds 42 = .ok (.ireturn, 1) := by decide +kernel
theorem d_M_minds_43 : decode b_M_minds 43 = .ok (.aload_n 0, 1) := by decide +kernel
theorem d_M_minds_44 : decode b_M_minds 44 = .ok (.getfield 33, 3) := by decide +kernel
theorem d_M_minds_47 : decode b_M_minds 47 = .ok (.iload_n 1, 1) := by decide +kernel
theorem d_M_minds_48 : decode b_M_minds 48 = .ok (.iaload, 1) := by decide +kernel
theorem d_M_minds_49 : decode b_M_minds 49 = .ok (.ifCond .ne 6, 3) := by decide +kernel
theorem d_M_minds_52 : decode b_M_minds 52 = .ok (.bipush (-11), 2) := by decide +kernel
theorem d_M_minds_54 : decode b_M_minds 54 = .ok (.ireturn, 1) := by decide +kernel
theorem d_M_minds_55 : decode b_M_minds 55 = .ok (.aload_n 0, 1) := by decide +kernel
theorem d_M_minds_56 : decode b_M_minds 56 = .ok (.getfield 33, 3) := by decide +kernel
theorem d_M_minds_59 : decode b_M_minds 59 = .ok (.iload_n 1, 1) := by decide +kernel
theorem d_M_minds_60 : decode b_M_minds 60 = .ok (.iaload, 1) := by decide +kernel
theorem d_M_minds_61 : decode b_M_minds 61 = .ok (.iconst 1, 1) := by decide +kernel
theorem d_M_minds_62 : decode b_M_minds 62 = .ok (.if_icmp .eq 6, 3) := by decide +kernel
theorem d_M_minds_65 : decode b_M_minds 65 = .ok (.bipush (-13), 2) := by decide +kernel
theorem d_M_minds_67 : decode b_M_minds 67 = .ok (.ireturn, 1) := by decide +kernel
theorem d_M_minds_68 : decode b_M_minds 68 = .ok (.iload_n 2, 1) := by decide +kernel
theorem d_M_minds_69 : decode b_M_minds 69 = .ok (.i2l, 1) := by decide +kernel
theorem d_M_minds_70 : decode b_M_minds 70 = .ok (.lconst 0, 1) := by decide +kernel
theorem d_M_minds_71 : decode b_M_minds 71 = .ok (.aload_n 0, 1) := by decide +kernel
theorem d_M_minds_72 : decode b_M_minds 72 = .ok (.getfield 36, 3) := by decide +kernel
theorem d_M_minds_75 : decode b_M_minds 75 = .ok (.iload_n 1, 1) := by decide +kernel
theorem d_M_minds_76 : decode b_M_minds 76 = .ok (.iaload, 1) := by decide +kernel
theorem d_M_minds_77 : decode b_M_minds 77 = .ok (.i2l, 1) := by decide +kernel
theorem d_M_minds_78 : decode b_M_minds 78 = .ok (.invokestatic 58, 3) := by decide +kernel
theorem d_M_minds_81 : decode b_M_minds 81 = .ok (.ifCond .eq 16, 3) := by decide +kernel
theorem d_M_minds_84 : decode b_M_minds 84 = .ok (.iload 4, 2) := by decide +kernel
theorem d_M_minds_86 : decode b_M_minds 86 = .ok (.aload_n 0, 1) := by decide +kernel
theorem d_M_minds_87 : decode b_M_minds 87 = .ok (.getfield 36, 3) := by decide +kernel
theorem d_M_minds_90 : decode b_M_minds 90 = .ok (.iload_n 1, 1) := by decide +kernel
theorem d_M_minds_91 : decode b_M_minds 91 = .ok (.iaload, 1) := by decide +kernel
theorem d_M_minds_92 : decode b_M_minds 92 = .ok (.iload_n 2, 1) := by decide +kernel
theorem d_M_minds_93 : decode b_M_minds 93 = .ok (.isub, 1) := by decide +kernel
theorem d_M_minds_94 : decode b_M_minds 94 = .ok (.if_icmp .le 6, 3) := by decide +kernel
theorem d_M_minds_97 : decode b_M_minds 97 = .ok (.bipush (-12), 2) := by decide +kernel
theorem d_M_minds_99 : decode b_M_minds 99 = .ok (.ireturn, 1) := by decide +kernel
theorem d_M_minds_100 : decode b_M_minds 100 = .ok (.iconst 0, 1) := by decide +kernel
theorem d_M_minds_101 : decode b_M_minds 101 = .ok (.istore 5, 2) := by decide +kernel
theorem d_M_minds_103 : decode b_M_minds 103 = .ok (.iload 5, 2) := by decide +kernel
theorem d_M_minds_105 : decode b_M_minds 105 = .ok (.iload 4, 2) := by decide +kernel
theorem d_M_minds_107 : decode b_M_minds 107 = .ok (.if_icmp .ge 39, 3) := by decide +kernel
theorem d_M_minds_110 : decode b_M_minds 110 = .ok (.aload_n 0, 1) := by decide +kernel
theorem d_M_minds_111 : decode b_M_minds 111 = .ok (.iload_n 3, 1) := by decide +kernel
theorem d_M_minds_112 : decode b_M_minds 112 = .ok (.iload 5, 2) := by decide +kernel
theorem d_M_minds_114 : decode b_M_minds 114 = .ok (.iadd, 1) := by decide +kernel
theorem d_M_minds_115 : decode b_M_minds 115 = .ok (.iconst 1, 1) := by decide +kernel
theorem d_M_minds_116 : decode b_M_minds 116 = .ok (.aload_n 0, 1) := by decide +kernel
theorem d_M_minds_117 : decode b_M_minds 117 = .ok (.getfield 39, 3) := by decide +kernel
theorem d_M_minds_120 : decode b_M_minds 120 = .ok (.bipush 40, 2) := by decide +kernel
theorem d_M_minds_122 : decode b_M_minds 122 = .ok (.iload_n 1, 1) := by decide +kernel
theorem d_M_minds_123 : decode b_M_minds 123 = .ok (.imul, 1) := by decide +kernel
theorem d_M_minds_124 : decode b_M_minds 124 = .ok (.iload_n 2, 1) := by decide +kernel
theorem d_M_minds_125 : decode b_M_minds 125 = .ok (.iadd, 1) := by decide +kernel
theorem d_M_minds_126 : decode b_M_minds 126 = .ok (.iload 5, 2) := by decide +kernel
theorem d_M_minds_128 : decode b_M_minds 128 = .ok (.iadd, 1) := by decide +kernel
theorem d_M_minds_129 : decode b_M_minds 129 = .ok (.laload, 1) := by decide +kernel
theorem d_M_minds_130 : decode b_M_minds 130 = .ok (.l2i, 1) := by decide +kernel
theorem d_M_minds_131 : decode b_M_minds 131 = .ok (.iconst 0, 1) := by decide +kernel
theorem d_M_minds_132 : decode b_M_minds 132 = .ok (.bipush 99, 2) := by decide +kernel
theorem d_M_minds_134 : decode b_M_minds 134 = .ok (.invokestatic 68, 3) := by decide +kernel
theorem d_M_minds_137 : decode b_M_minds 137 = .ok (.invokevirtual 72, 3) := by decide +kernel
theorem d_M_minds_140 : decode b_M_minds 140 = .ok (.iinc 5 1, 3) := by decide +kernel
theorem d_M_minds_143 : decode b_M_minds 143 = .ok (.goto (-40), 3) := by decide +kernel
theorem d_M_minds_146 : decode b_M_minds 146 = .ok (.iload 4, 2) := by decide +kernel
theorem d_M_minds_148 : decode b_M_minds 148 = .ok (.ireturn, 1) := by decide +kernel
theorem d_M_sheet_0 : decode b_M_sheet 0 = .ok (.iload_n 1, 1) := by decide +kernel
theorem d_M_sheet_1 : decode b_M_sheet 1 = .ok (.invokestatic 178, 3) := by decide +kernel
theorem d_M_sheet_4 : decode b_M_sheet 4 = .ok (.ifCond .eq 27, 3) := by decide +kernel
theorem d_M_sheet_7 : decode b_M_sheet 7 = .ok (.iload_n 2, 1) := by decide +kernel
theorem d_M_sheet_8 : decode b_M_sheet 8 = .ok (.i2l, 1) := by decide +kernel
theorem d_M_sheet_9 : decode b_M_sheet 9 = .ok (.ldc2_w 181, 3) := by decide +kernel
theorem d_M_sheet_12 : decode b_M_sheet 12 = .ok (.ldc2_w 98, 3) := by decide +kernel
theorem d_M_sheet_15 : decode b_M_sheet 15 = .ok (.invokestatic 58, 3) := by decide +kernel
theorem d_M_sheet_18 : decode b_M_sheet 18 = .ok (.ifCond .eq 13, 3) := by decide +kernel
theorem d_M_sheet_21 : decode b_M_sheet 21 = .ok (.iload_n 2, 1) := by decide +kernel
theorem d_M_sheet_22 : decode b_M_sheet 22 = .ok (.ifCond .lt 11, 3) := by decide +kernel
theorem d_M_sheet_25 : decode b_M_sheet 25 = .ok (.iload_n 3, 1) := by decide +kernel
theorem d_M_sheet_26 : decode b_M_sheet 26 = .ok (.bipush 40, 2) := by decide +kernel
theorem d_M_sheet_28 : decode b_M_sheet 28 = .ok (.if_icmp .le 5, 3) := by decide +kernel
theorem d_M_sheet_31 : decode b_M_sheet 31 = .ok (.iconst (-1), 1) := by decide +kernel
theorem d_M_sheet_32 : decode b_M_sheet 32 = .ok (.ireturn, 1) := by decide +kernel
theorem d_M_sheet_33 : decode b_M_sheet 33 = .ok (.iload_n 2, 1) := by decide +kernel
theorem d_M_sheet_34 : decode b_M_sheet 34 = .ok (.ifCond .lt 10, 3) := by decide +kernel
theorem d_M_sheet_37 : decode b_M_sheet 37 = .ok (.iload_n 3, 1) := by decide +kernel
theorem d_M_sheet_38 : decode b_M_sheet 38 = .ok (.ifCond .ge 6, 3) := by decide +kernel
theorem d_M_sheet_41 : decode b_M_sheet 41 = .ok (.bipush (-14), 2) := by decide +kernel
theorem d_M_sheet_43 : decode b_M_sheet 43 = .ok (.ireturn, 1) := by decide +kernel
theorem d_M_sheet_44 : decode b_M_sheet 44 = .ok (.aload_n 0, 1) := by decide +kernel
theorem d_M_sheet_45 : decode b_M_sheet 45 = .ok (.getfield 33, 3) := by decide +kernel
theorem d_M_sheet_48 : decode b_M_sheet 48 = .ok (.iload_n 1, 1) := by decide +kernel
theorem d_M_sheet_49 : decode b_M_sheet 49 = .ok (.iload_n 2, 1) := by decide +kernel
theorem d_M_sheet_50 : decode b_M_sheet 50 = .ok (.iconst 1, 1) := by decide +kernel
theorem d_M_sheet_51 : decode b_M_sheet 51 = .ok (.iadd, 1) := by decide +kernel
theorem d_M_sheet_52 : decode b_M_sheet 52 = .ok (.iastore, 1) := by decide +kernel
theorem d_M_sheet_53 : decode b_M_sheet 53 = .ok (.aload_n 0, 1) := by decide +kernel
theorem d_M_sheet_54 : decode b_M_sheet 54 = .ok (.getfield 36, 3) := by decide +kernel
theorem d_M_sheet_57 : decode b_M_sheet 57 = .ok (.iload_n 1, 1) := by decide +kernel
theorem d_M_sheet_58 : decode b_M_sheet 58 = .ok (.iload_n 2, 1) := by decide +kernel
theorem d_M_sheet_59 : decode b_M_sheet 59 = .ok (.ifCond .ge 7, 3) := by decide +kernel
theorem d_M_sheet_62 : decode b_M_sheet 62 = .ok (.iconst 0, 1) := by decide +kernel
theorem d_M_sheet_63 : decode b_M_sheet 63 = .ok (.goto 4, 3) := by decide +kernel
theorem d_M_sheet_66 : decode b_M_sheet 66 = .ok (.iload_n 3, 1) := by decide +kernel
theorem d_M_sheet_67 : decode b_M_sheet 67 = .ok (.iastore, 1) := by decide +kernel
theorem d_M_sheet_68 : decode b_M_sheet 68 = .ok (.iconst 0, 1) := by decide +kernel
theorem d_M_sheet_69 : decode b_M_sheet 69 = .ok (.istore 4, 2) := by decide +kernel
theorem d_M_sheet_71 : decode b_M_sheet 71 = .ok (.iload 4, 2) := by decide +kernel
theorem d_M_sheet_73 : decode b_M_sheet 73 = .ok (.bipush 40, 2) := by decide +kernel
theorem d_M_sheet_75 : decode b_M_sheet 75 = .ok (.if_icmp .ge 22, 3) := by decide +kernel
theorem d_M_sheet_78 : decode b_M_sheet 78 = .ok (.aload_n 0, 1) := by decide +kernel
theorem d_M_sheet_79 : decode b_M_sheet 79 = .ok (.getfield 39, 3) := by decide +kernel
theorem d_M_sheet_82 : decode b_M_sheet 82 = .ok (.bipush 40, 2) := by decide +kernel
theorem d_M_sheet_84 : decode b_M_sheet 84 = .ok (.iload_n 1, 1) := by decide +kernel
theorem d_M_sheet_85 : decode b_M_sheet 85 = .ok (.imul, 1) := by decide +kernel
theorem d_M_sheet_86 : decode b_M_sheet 86 = .ok (.iload 4, 2) := by decide +kernel
theorem d_M_sheet_88 : decode b_M_sheet 88 = .ok (.iadd, 1) := by decide +kernel
theorem d_M_sheet_89 : decode b_M_sheet 89 = .ok (.lconst 0, 1) := by decide +kernel
theorem d_M_sheet_90 : decode b_M_sheet 90 = .ok (.lastore, 1) := by decide +kernel
theorem d_M_sheet_91 : decode b_M_sheet 91 = .ok (.iinc 4 1, 3) := by decide +kernel
theorem d_M_sheet_94 : decode b_M_sheet 94 = .ok (.goto (-23), 3) := by decide +kernel
theorem d_M_sheet_97 : decode b_M_sheet 97 = .ok (.iconst 1, 1) := by decide +kernel
theorem d_M_sheet_98 : decode b_M_sheet 98 = .ok (.ireturn, 1) := by decide +kernel
theorem d_M_put_0 : decode b_M_put 0 = .ok (.iload_n 1, 1) := by decide +kernel
theorem d_M_put_1 : decode b_M_put 1 = .ok (.invokestatic 178, 3) := by decide +kernel
theorem d_M_put_4 : decode b_M_put 4 = .ok (.ifCond .ne 5, 3) := by decide +kernel
theorem d_M_put_7 : decode b_M_put 7 = .ok (.iconst (-1), 1) := by decide +kernel
theorem d_M_put_8 : decode b_M_put 8 = .ok (.ireturn, 1) := by decide +kernel
theorem d_M_put_9 : decode b_M_put 9 = .ok (.aload_n 0, 1) := by decide +kernel
theorem d_M_put_10 : decode b_M_put 10 = .ok (.getfield 33, 3) := by decide +kernel
theorem d_M_put_13 : decode b_M_put 13 = .ok (.iload_n 1, 1) := by decide +kernel
theorem d_M_put_14 : decode b_M_put 14 = .ok (.iaload, 1) := by decide +kernel
theorem d_M_put_15 : decode b_M_put 15 = .ok (.ifCond .ne 6, 3) := by decide +kernel
theorem d_M_put_18 : decode b_M_put 18 = .ok (.bipush (-11), 2) := by decide +kernel
theorem d_M_put_20 : decode b_M_put 20 = .ok (.ireturn, 1) := by decide +kernel
theorem d_M_put_21 : decode b_M_put 21 = .ok (.iload_n 2, 1) := by decide +kernel
theorem d_M_put_22 : decode b_M_put 22 = .ok (.i2l, 1) := by decide +kernel
theorem d_M_put_23 : decode b_M_put 23 = .ok (.lconst 0, 1) := by decide +kernel
theorem d_M_put_24 : decode b_M_put 24 = .ok (.aload_n 0, 1) := by decide +kernel
theorem d_M_put_25 : decode b_M_put 25 = .ok (.getfield 36, 3) := by decide +kernel
theorem d_M_put_28 : decode b_M_put 28 = .ok (.iload_n 1, 1) := by decide +kernel
theorem d_M_put_29 : decode b_M_put 29 = .ok (.iaload, 1) := by decide +kernel
theorem d_M_put_30 : decode b_M_put 30 = .ok (.iconst 1, 1) := by decide +kernel
theorem d_M_put_31 : decode b_M_put 31 = .ok (.isub, 1) := by decide +kernel
theorem d_M_put_32 : decode b_M_put 32 = .ok (.i2l, 1) := by decide +kernel
theorem d_M_put_33 : decode b_M_put 33 = .ok (.invokestatic 58, 3) := by decide +kernel
theorem d_M_put_36 : decode b_M_put 36 = .ok (.ifCond .ne 6, 3) := by decide +kernel
theorem d_M_put_39 : decode b_M_put 39 = .ok (.bipush (-12), 2) := by decide +kernel
theorem d_M_put_41 : decode b_M_put 41 = .ok (.ireturn, 1) := by decide +kernel
theorem d_M_put_42 : decode b_M_put 42 = .ok (.aload_n 0, 1) := by decide +kernel
theorem d_M_put_43 : decode b_M_put 43 = .ok (.getfield 39, 3) := by decide +kernel
theorem d_M_put_46 : decode b_M_put 46 = .ok (.bipush 40, 2) := by decide +kernel
theorem d_M_put_48 : decode b_M_put 48 = .ok (.iload_n 1, 1) := by decide +kernel
theorem d_M_put_49 : decode b_M_put 49 = .ok (.imul, 1) := by decide +kernel
theorem d_M_put_50 : decode b_M_put 50 = .ok (.iload_n 2, 1) := by decide +kernel
theorem d_M_put_51 : decode b_M_put 51 = .ok (.iadd, 1) := by decide +kernel
theorem d_M_put_52 : decode b_M_put 52 = .ok (.aload_n 0, 1) := by decide +kernel
theorem d_M_put_53 : decode b_M_put 53 = .ok (.getfield 33, 3) := by decide +kernel
theorem d_M_put_56 : decode b_M_put 56 = .ok (.iload_n 1, 1) := by decide +kernel
theorem d_M_put_57 : decode b_M_put 57 = .ok (.iaload, 1) := by decide +kernel
theorem d_M_put_58 : decode b_M_put 58 = .ok (.iconst 1, 1) := by decide +kernel
theorem d_M_put_59 : decode b_M_put 59 = .ok (.if_icmp .ne 9, 3) := by decide +kernel
theorem d_M_put_62 : decode b_M_put 62 = .ok (.iload_n 3, 1) := by decide +kernel
theorem d_M_put_63 : decode b_M_put 63 = .ok (.i2b, 1) := by decide +kernel
theorem d_M_put_64 : decode b_M_put 64 = .ok (.i2l, 1) := by decide +kernel
theorem d_M_put_65 : decode b_M_put 65 = .ok (.goto 21, 3) := by decide +kernel
theorem d_M_put_68 : decode b_M_put 68 = .ok (.aload_n 0, 1) := by decide +kernel
theorem d_M_put_69 : decode b_M_put 69 = .ok (.getfield 33, 3) := by decide +kernel
theorem d_M_put_72 : decode b_M_put 72 = .ok (.iload_n 1, 1) := by decide +kernel
theorem d_M_put_73 : decode b_M_put 73 = .ok (.iaload, 1) := by decide +kernel
theorem d_M_put_74 : decode b_M_put 74 = .ok (.iconst 2, 1) := by decide +kernel
theorem d_M_put_75 : decode b_M_put 75 = .ok (.if_icmp .ne 9, 3) := by decide +kernel
theorem d_M_put_78 : decode b_M_put 78 = .ok (.iload_n 3, 1) := by decide +kernel
theorem d_M_put_79 : decode b_M_put 79 = .ok (.i2s, 1) := by decide +kernel
theorem d_M_put_80 : decode b_M_put 80 = .ok (.i2l, 1) := by decide +kernel
theorem d_M_put_81 : decode b_M_put 81 = .ok (.goto 5, 3) := by decide +kernel
theorem d_M_put_84 : decode b_M_put 84 = .ok (.iload_n 3, 1) := by decide +kernel
theorem d_M_put_85 : decode b_M_put 85 = .ok (.i2l, 1) := by decide +kernel
theorem d_M_put_86 : decode b_M_put 86 = .ok (.lastore, 1) := by decide +kernel
theorem d_M_put_87 : decode b_M_put 87 = .ok (.iconst 1, 1) := by decide +kernel
theorem d_M_put_88 : decode b_M_put 88 = .ok (.ireturn, 1) := by decide +kernel
theorem d_M_item_0 : decode b_M_item 0 = .ok (.iload_n 1, 1) := by decide +kernel
theorem d_M_item_1 : decode b_M_item 1 = .ok (.invokestatic 178, 3) := by decide +kernel
theorem d_M_item_4 : decode b_M_item 4 = .ok (.ifCond .eq 15, 3) := by decide +kernel
theorem d_M_item_7 : decode b_M_item 7 = .ok (.iload_n 2, 1) := by decide +kernel
theorem d_M_item_8 : decode b_M_item 8 = .ok (.i2l, 1) := by decide +kernel
theorem d_M_item_9 : decode b_M_item 9 = .ok (.lconst 0, 1) := by decide +kernel
theorem d_M_item_10 : decode b_M_item 10 = .ok (.ldc2_w 98, 3) := by decide +kernel
theorem d_M_item_13 : decode b_M_item 13 = .ok (.invokestatic 58, 3) := by decide +kernel
theorem d_M_item_16 : decode b_M_item 16 = .ok (.ifCond .ne 5, 3) := by decide +kernel
theorem d_M_item_19 : decode b_M_item 19 = .ok (.iconst (-1), 1) := by decide +kernel
theorem d_M_item_20 : decode b_M_item 20 = .ok (.ireturn, 1) := by decide +kernel
theorem d_M_item_21 : decode b_M_item 21 = .ok (.aload_n 0, 1) := by decide +kernel
theorem d_M_item_22 : decode b_M_item 22 = .ok (.getfield 33, 3) := by decide +kernel
theorem d_M_item_25 : decode b_M_item 25 = .ok (.iload_n 1, 1) := by decide +kernel
theorem d_M_item_26 : decode b_M_item 26 = .ok (.iaload, 1) := by decide +kernel
theorem d_M_item_27 : decode b_M_item 27 = .ok (.ifCond .ne 6, 3) := by decide +kernel
theorem d_M_item_30 : decode b_M_item 30 = .ok (.bipush (-11), 2) := by decide +kernel
theorem d_M_item_32 : decode b_M_item 32 = .ok (.ireturn, 1) := by decide +kernel
theorem d_M_item_33 : decode b_M_item 33 = .ok (.aload_n 0, 1) := by decide +kernel
theorem d_M_item_34 : decode b_M_item 34 = .ok (.getfield 33, 3) := by decide +kernel
theorem d_M_item_37 : decode b_M_item 37 = .ok (.iload_n 1, 1) := by decide +kernel
theorem d_M_item_38 : decode b_M_item 38 = .ok (.iaload, 1) := by decide +kernel
theorem d_M_item_39 : decode b_M_item 39 = .ok (.iload_n 2, 1) := by decide +kernel
theorem d_M_item_40 : decode b_M_item 40 = .ok (.iconst 1, 1) := by decide +kernel
theorem d_M_item_41 : decode b_M_item 41 = .ok (.iadd, 1) := by decide +kernel
theorem d_M_item_42 : decode b_M_item 42 = .ok (.if_icmp .eq 6, 3) := by decide +kernel
theorem d_M_item_45 : decode b_M_item 45 = .ok (.bipush (-13), 2) := by decide +kernel
theorem d_M_item_47 : decode b_M_item 47 = .ok (.ireturn, 1) := by decide +kernel
theorem d_M_item_48 : decode b_M_item 48 = .ok (.iload_n 3, 1) := by decide +kernel
theorem d_M_item_49 : decode b_M_item 49 = .ok (.i2l, 1) := by decide +kernel
theorem d_M_item_50 : decode b_M_item 50 = .ok (.lconst 0, 1) := by decide +kernel
theorem d_M_item_51 : decode b_M_item 51 = .ok (.aload_n 0, 1) := by decide +kernel
theorem d_M_item_52 : decode b_M_item 52 = .ok (.getfield 36, 3) := by decide +kernel
theorem d_M_item_55 : decode b_M_item 55 = .ok (.iload_n 1, 1) := by decide +kernel
theorem d_M_item_56 : decode b_M_item 56 = .ok (.iaload, 1) := by decide +kernel
theorem d_M_item_57 : decode b_M_item 57 = .ok (.iconst 1, 1) := by decide +kernel
theorem d_M_item_58 : decode b_M_item 58 = .ok (.isub, 1) := by decide +kernel
theorem d_M_item_59 : decode b_M_item 59 = .ok (.i2l, 1) := by decide +kernel
theorem d_M_item_60 : decode b_M_item 60 = .ok (.invokestatic 58, 3) := by decide +kernel
theorem d_M_item_63 : decode b_M_item 63 = .ok (.ifCond .eq 18, 3) := by decide +kernel
theorem d_M_item_66 : decode b_M_item 66 = .ok (.aload_n 0, 1) := by decide +kernel
theorem d_M_item_67 : decode b_M_item 67 = .ok (.getfield 39, 3) := by decide +kernel
theorem d_M_item_70 : decode b_M_item 70 = .ok (.bipush 40, 2) := by decide +kernel
theorem d_M_item_72 : decode b_M_item 72 = .ok (.iload_n 1, 1) := by decide +kernel
theorem d_M_item_73 : decode b_M_item 73 = .ok (.imul, 1) := by decide +kernel
theorem d_M_item_74 : decode b_M_item 74 = .ok (.iload_n 3, 1) := by decide +kernel
theorem d_M_item_75 : decode b_M_item 75 = .ok (.iadd, 1) := by decide +kernel
theorem d_M_item_76 : decode b_M_item 76 = .ok (.laload, 1) := by decide +kernel
theorem d_M_item_77 : decode b_M_item 77 = .ok (.l2i, 1) := by decide +kernel
theorem d_M_item_78 : decode b_M_item 78 = .ok (.goto 5, 3) := by decide +kernel
theorem d_M_item_81 : decode b_M_item 81 = .ok (.bipush (-12), 2) := by decide +kernel
theorem d_M_item_83 : decode b_M_item 83 = .ok (.ireturn, 1) := by decide +kernel
