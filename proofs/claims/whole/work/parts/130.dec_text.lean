theorem d_X_isLaw_0 : decode b_X_isLaw 0 = .ok (.iload_n 0, 1) := by decide +kernel
theorem d_X_isLaw_1 : decode b_X_isLaw 1 = .ok (.ifCond .lt 12, 3) := by decide +kernel
theorem d_X_isLaw_4 : decode b_X_isLaw 4 = .ok (.iload_n 0, 1) := by decide +kernel
theorem d_X_isLaw_5 : decode b_X_isLaw 5 = .ok (.iconst 4, 1) := by decide +kernel
theorem d_X_isLaw_6 : decode b_X_isLaw 6 = .ok (.if_icmp .ge 7, 3) := by decide +kernel
theorem d_X_isLaw_9 : decode b_X_isLaw 9 = .ok (.iconst 1, 1) := by decide +kernel
theorem d_X_isLaw_10 : decode b_X_isLaw 10 = .ok (.goto 4, 3) := by decide +kernel
theorem d_X_isLaw_13 : decode b_X_isLaw 13 = .ok (.iconst 0, 1) := by decide +kernel
theorem d_X_isLaw_14 : decode b_X_isLaw 14 = .ok (.ireturn, 1) := by decide +kernel
theorem d_T_append_0 : decode b_T_append 0 = .ok (.aload_n 0, 1) := by decide +kernel
theorem d_T_append_1 : decode b_T_append 1 = .ok (.getfield 15, 3) := by decide +kernel
theorem d_T_append_4 : decode b_T_append 4 = .ok (.ifCond .lt 33, 3) := by decide +kernel
theorem d_T_append_7 : decode b_T_append 7 = .ok (.aload_n 0, 1) := by decide +kernel
theorem d_T_append_8 : decode b_T_append 8 = .ok (.getfield 15, 3) := by decide +kernel
theorem d_T_append_11 : decode b_T_append 11 = .ok (.sipush 200, 3) := by decide +kernel
theorem d_T_append_14 : decode b_T_append 14 = .ok (.if_icmp .ge 23, 3) := by decide +kernel
theorem d_T_append_17 : decode b_T_append 17 = .ok (.aload_n 0, 1) := by decide +kernel
theorem d_T_append_18 : decode b_T_append 18 = .ok (.getfield 9, 3) := by decide +kernel
theorem d_T_append_21 : decode b_T_append 21 = .ok (.aload_n 0, 1) := by decide +kernel
theorem d_T_append_22 : decode b_T_append 22 = .ok (.getfield 15, 3) := by decide +kernel
theorem d_T_append_25 : decode b_T_append 25 = .ok (.iload_n 1, 1) := by decide +kernel
theorem d_T_append_26 : decode b_T_append 26 = .ok (.bastore, 1) := by decide +kernel
theorem d_T_append_27 : decode b_T_append 27 = .ok (.aload_n 0, 1) := by decide +kernel
theorem d_T_append_28 : decode b_T_append 28 = .ok (.dup, 1) := by decide +kernel
theorem d_T_append_29 : decode b_T_append 29 = .ok (.getfield 15, 3) := by decide +kernel
theorem d_T_append_32 : decode b_T_append 32 = .ok (.iconst 1, 1) := by decide +kernel
theorem d_T_append_33 : decode b_T_append 33 = .ok (.iadd, 1) := by decide +kernel
theorem d_T_append_34 : decode b_T_append 34 = .ok (.putfield 15, 3) := by decide +kernel
theorem d_T_append_37 : decode b_T_append 37 = .ok (.return_, 1) := by decide +kernel
theorem d_T_byteAt_0 : decode b_T_byteAt 0 = .ok (.iload_n 1, 1) := by decide +kernel
theorem d_T_byteAt_1 : decode b_T_byteAt 1 = .ok (.ifCond .lt 27, 3) := by decide +kernel
theorem d_T_byteAt_4 : decode b_T_byteAt 4 = .ok (.iload_n 1, 1) := by decide +kernel
theorem d_T_byteAt_5 : decode b_T_byteAt 5 = .ok (.aload_n 0, 1) := by decide +kernel
theorem d_T_byteAt_6 : decode b_T_byteAt 6 = .ok (.getfield 15, 3) := by decide +kernel
theorem d_T_byteAt_9 : decode b_T_byteAt 9 = .ok (.if_icmp .ge 19, 3) := by decide +kernel
theorem d_T_byteAt_12 : decode b_T_byteAt 12 = .ok (.iload_n 1, 1) := by decide +kernel
theorem d_T_byteAt_13 : decode b_T_byteAt 13 = .ok (.sipush 200, 3) := by decide +kernel
theorem d_T_byteAt_16 : decode b_T_byteAt 16 = .ok (.if_icmp .ge 12, 3) := by decide +kernel
theorem d_T_byteAt_19 : decode b_T_byteAt 19 = .ok (.aload_n 0, 1) := by decide +kernel
theorem d_T_byteAt_20 : decode b_T_byteAt 20 = .ok (.getfield 9, 3) := by decide +kernel
theorem d_T_byteAt_23 : decode b_T_byteAt 23 = .ok (.iload_n 1, 1) := by decide +kernel
theorem d_T_byteAt_24 : decode b_T_byteAt 24 = .ok (.baload, 1) := by decide +kernel
theorem d_T_byteAt_25 : decode b_T_byteAt 25 = .ok (.goto 4, 3) := by decide +kernel
theorem d_T_byteAt_28 : decode b_T_byteAt 28 = .ok (.iconst (-1), 1) := by decide +kernel
theorem d_T_byteAt_29 : decode b_T_byteAt 29 = .ok (.ireturn, 1) := by decide +kernel
theorem d_T_isLetter_0 : decode b_T_isLetter 0 = .ok (.iload_n 0, 1) := by decide +kernel
theorem d_T_isLetter_1 : decode b_T_isLetter 1 = .ok (.bipush 97, 2) := by decide +kernel
theorem d_T_isLetter_3 : decode b_T_isLetter 3 = .ok (.if_icmp .lt 13, 3) := by decide +kernel
theorem d_T_isLetter_6 : decode b_T_isLetter 6 = .ok (.iload_n 0, 1) := by decide +kernel
theorem d_T_isLetter_7 : decode b_T_isLetter 7 = .ok (.bipush 122, 2) := by decide +kernel
theorem d_T_isLetter_9 : decode b_T_isLetter 9 = .ok (.if_icmp .gt 7, 3) := by decide +kernel
theorem d_T_isLetter_12 : decode b_T_isLetter 12 = .ok (.iconst 1, 1) := by decide +kernel
theorem d_T_isLetter_13 : decode b_T_isLetter 13 = .ok (.goto 4, 3) := by decide +kernel
theorem d_T_isLetter_16 : decode b_T_isLetter 16 = .ok (.iconst 0, 1) := by decide +kernel
theorem d_T_isLetter_17 : decode b_T_isLetter 17 = .ok (.ireturn, 1) := by decide +kernel
theorem d_T_isDigit_0 : decode b_T_isDigit 0 = .ok (.iload_n 0, 1) := by decide +kernel
theorem d_T_isDigit_1 : decode b_T_isDigit 1 = .ok (.bipush 48, 2) := by decide +kernel
theorem d_T_isDigit_3 : decode b_T_isDigit 3 = .ok (.if_icmp .lt 13, 3) := by decide +kernel
theorem d_T_isDigit_6 : decode b_T_isDigit 6 = .ok (.iload_n 0, 1) := by decide +kernel
theorem d_T_isDigit_7 : decode b_T_isDigit 7 = .ok (.bipush 57, 2) := by decide +kernel
theorem d_T_isDigit_9 : decode b_T_isDigit 9 = .ok (.if_icmp .gt 7, 3) := by decide +kernel
theorem d_T_isDigit_12 : decode b_T_isDigit 12 = .ok (.iconst 1, 1) := by decide +kernel
theorem d_T_isDigit_13 : decode b_T_isDigit 13 = .ok (.goto 4, 3) := by decide +kernel
theorem d_T_isDigit_16 : decode b_T_isDigit 16 = .ok (.iconst 0, 1) := by decide +kernel
theorem d_T_isDigit_17 : decode b_T_isDigit 17 = .ok (.ireturn, 1) := by decide +kernel
theorem d_T_step_0 : decode b_T_step 0 = .ok (.aload_n 0, 1) := by decide +kernel
theorem d_T_step_1 : decode b_T_step 1 = .ok (.aload_n 0, 1) := by decide +kernel
theorem d_T_step_2 : decode b_T_step 2 = .ok (.getfield 25, 3) := by decide +kernel
theorem d_T_step_5 : decode b_T_step 5 = .ok (.putfield 22, 3) := by decide +kernel
theorem d_T_step_8 : decode b_T_step 8 = .ok (.aload_n 0, 1) := by decide +kernel
theorem d_T_step_9 : decode b_T_step 9 = .ok (.getfield 22, 3) := by decide +kernel
theorem d_T_step_12 : decode b_T_step 12 = .ok (.aload_n 0, 1) := by decide +kernel
theorem d_T_step_13 : decode b_T_step 13 = .ok (.getfield 15, 3) := by decide +kernel
theorem d_T_step_16 : decode b_T_step 16 = .ok (.if_icmp .ge 29, 3) := by decide +kernel
theorem d_T_step_19 : decode b_T_step 19 = .ok (.aload_n 0, 1) := by decide +kernel
theorem d_T_step_20 : decode b_T_step 20 = .ok (.aload_n 0, 1) := by decide +kernel
theorem d_T_step_21 : decode b_T_step 21 = .ok (.getfield 22, 3) := by decide +kernel
theorem d_T_step_24 : decode b_T_step 24 = .ok (.invokevirtual 130, 3) := by decide +kernel
theorem d_T_step_27 : decode b_T_step 27 = .ok (.bipush 32, 2) := by decide +kernel
theorem d_T_step_29 : decode b_T_step 29 = .ok (.if_icmp .ne 16, 3) := by decide +kernel
theorem d_T_step_32 : decode b_T_step 32 = .ok (.aload_n 0, 1) := by decide +kernel
theorem d_T_step_33 : decode b_T_step 33 = .ok (.dup, 1) := by decide +kernel
theorem d_T_step_34 : decode b_T_step 34 = .ok (.getfield 22, 3) := by decide +kernel
theorem d_T_step_37 : decode b_T_step 37 = .ok (.iconst 1, 1) := by decide +kernel
theorem d_T_step_38 : decode b_T_step 38 = .ok (.iadd, 1) := by decide +kernel
theorem d_T_step_39 : decode b_T_step 39 = .ok (.putfield 22, 3) := by decide +kernel
theorem d_T_step_42 : decode b_T_step 42 = .ok (.goto (-34), 3) := by decide +kernel
theorem d_T_step_45 : decode b_T_step 45 = .ok (.aload_n 0, 1) := by decide +kernel
theorem d_T_step_46 : decode b_T_step 46 = .ok (.aload_n 0, 1) := by decide +kernel
theorem d_T_step_47 : decode b_T_step 47 = .ok (.getfield 22, 3) := by decide +kernel
theorem d_T_step_50 : decode b_T_step 50 = .ok (.putfield 25, 3) := by decide +kernel
theorem d_T_step_53 : decode b_T_step 53 = .ok (.aload_n 0, 1) := by decide +kernel
theorem d_T_step_54 : decode b_T_step 54 = .ok (.aload_n 0, 1) := by decide +kernel
theorem d_T_step_55 : decode b_T_step 55 = .ok (.getfield 22, 3) := by decide +kernel
theorem d_T_step_58 : decode b_T_step 58 = .ok (.invokevirtual 130, 3) := by decide +kernel
theorem d_T_step_61 : decode b_T_step 61 = .ok (.invokestatic 137, 3) := by decide +kernel
theorem d_T_step_64 : decode b_T_step 64 = .ok (.ifCond .eq 46, 3) := by decide +kernel
theorem d_T_step_67 : decode b_T_step 67 = .ok (.aload_n 0, 1) := by decide +kernel
theorem d_T_step_68 : decode b_T_step 68 = .ok (.iconst 1, 1) := by decide +kernel
theorem d_T_step_69 : decode b_T_step 69 = .ok (.putfield 19, 3) := by decide +kernel
theorem d_T_step_72 : decode b_T_step 72 = .ok (.aload_n 0, 1) := by decide +kernel
theorem d_T_step_73 : decode b_T_step 73 = .ok (.getfield 25, 3) := by decide +kernel
theorem d_T_step_76 : decode b_T_step 76 = .ok (.aload_n 0, 1) := by decide +kernel
theorem d_T_step_77 : decode b_T_step 77 = .ok (.getfield 15, 3) := by decide +kernel
theorem d_T_step_80 : decode b_T_step 80 = .ok (.if_icmp .ge 121, 3) := by decide +kernel
theorem d_T_step_83 : decode b_T_step 83 = .ok (.aload_n 0, 1) := by decide +kernel
theorem d_T_step_84 : decode b_T_step 84 = .ok (.aload_n 0, 1) := by decide +kernel
theorem d_T_step_85 : decode b_T_step 85 = .ok (.getfield 25, 3) := by decide +kernel
theorem d_T_step_88 : decode b_T_step 88 = .ok (.invokevirtual 130, 3) := by decide +kernel
theorem d_T_step_91 : decode b_T_step 91 = .ok (.invokestatic 137, 3) := by decide +kernel
theorem d_T_step_94 : decode b_T_step 94 = .ok (.ifCond .eq 107, 3) := by decide +kernel
theorem d_T_step_97 : decode b_T_step 97 = .ok (.aload_n 0, 1) := by decide +kernel
theorem d_T_step_98 : decode b_T_step 98 = .ok (.dup, 1) := by decide +kernel
theorem d_T_step_99 : decode b_T_step 99 = .ok (.getfield 25, 3) := by decide +kernel
theorem d_T_step_102 : decode b_T_step 102 = .ok (.iconst 1, 1) := by decide +kernel
theorem d_T_step_103 : decode b_T_step 103 = .ok (.iadd, 1) := by decide +kernel
theorem d_T_step_104 : decode b_T_step 104 = .ok (.putfield 25, 3) := by decide +kernel
theorem d_T_step_107 : decode b_T_step 107 = .ok (.goto (-35), 3) := by decide +kernel
theorem d_T_step_110 : decode b_T_step 110 = .ok (.aload_n 0, 1) := by decide +kernel
theorem d_T_step_111 : decode b_T_step 111 = .ok (.aload_n 0, 1) := by decide +kernel
theorem d_T_step_112 : decode b_T_step 112 = .ok (.getfield 22, 3) := by decide +kernel
theorem d_T_step_115 : decode b_T_step 115 = .ok (.invokevirtual 130, 3) := by decide +kernel
theorem d_T_step_118 : decode b_T_step 118 = .ok (.invokestatic 140, 3) := by decide +kernel
theorem d_T_step_121 : decode b_T_step 121 = .ok (.ifCond .eq 46, 3) := by decide +kernel
theorem d_T_step_124 : decode b_T_step 124 = .ok (.aload_n 0, 1) := by decide +kernel
theorem d_T_step_125 : decode b_T_step 125 = .ok (.iconst 2, 1) := by decide +kernel
theorem d_T_step_126 : decode b_T_step 126 = .ok (.putfield 19, 3) := by decide +kernel
theorem d_T_step_129 : decode b_T_step 129 = .ok (.aload_n 0, 1) := by decide +kernel
theorem d_T_step_130 : decode b_T_step 130 = .ok (.getfield 25, 3) := by decide +kernel
theorem d_T_step_133 : decode b_T_step 133 = .ok (.aload_n 0, 1) := by decide +kernel
theorem d_T_step_134 : decode b_T_step 134 = .ok (.getfield 15, 3) := by decide +kernel
theorem d_T_step_137 : decode b_T_step 137 = .ok (.if_icmp .ge 64, 3) := by decide +kernel
theorem d_T_step_140 : decode b_T_step 140 = .ok (.aload_n 0, 1) := by decide +kernel
theorem d_T_step_141 : decode b_T_step 141 = .ok (.aload_n 0, 1) := by decide +kernel
theorem d_T_step_142 : decode b_T_step 142 = .ok (.getfield 25, 3) := by decide +kernel
theorem d_T_step_145 : decode b_T_step 145 = .ok (.invokevirtual 130, 3) := by decide +kernel
theorem d_T_step_148 : decode b_T_step 148 = .ok (.invokestatic 140, 3) := by decide +kernel
theorem d_T_step_151 : decode b_T_step 151 = .ok (.ifCond .eq 50, 3) := by decide +kernel
theorem d_T_step_154 : decode b_T_step 154 = .ok (.aload_n 0, 1) := by decide +kernel
theorem d_T_step_155 : decode b_T_step 155 = .ok (.dup, 1) := by decide +kernel
theorem d_T_step_156 : decode b_T_step 156 = .ok (.getfield 25, 3) := by decide +kernel
theorem d_T_step_159 : decode b_T_step 159 = .ok (.iconst 1, 1) := by decide +kernel
theorem d_T_step_160 : decode b_T_step 160 = .ok (.iadd, 1) := by decide +kernel
theorem d_T_step_161 : decode b_T_step 161 = .ok (.putfield 25, 3) := by decide +kernel
theorem d_T_step_164 : decode b_T_step 164 = .ok (.goto (-35), 3) := by decide +kernel
theorem d_T_step_167 : decode b_T_step 167 = .ok (.aload_n 0, 1) := by decide +kernel
theorem d_T_step_168 : decode b_T_step 168 = .ok (.getfield 22, 3) := by decide +kernel
theorem d_T_step_171 : decode b_T_step 171 = .ok (.aload_n 0, 1) := by decide +kernel
theorem d_T_step_172 : decode b_T_step 172 = .ok (.getfield 15, 3) := by decide +kernel
theorem d_T_step_175 : decode b_T_step 175 = .ok (.if_icmp .ge 21, 3) := by decide +kernel
theorem d_T_step_178 : decode b_T_step 178 = .ok (.aload_n 0, 1) := by decide +kernel
theorem d_T_step_179 : decode b_T_step 179 = .ok (.iconst 3, 1) := by decide +kernel
theorem d_T_step_180 : decode b_T_step 180 = .ok (.putfield 19, 3) := by decide +kernel
theorem d_T_step_183 : decode b_T_step 183 = .ok (.aload_n 0, 1) := by decide +kernel
theorem d_T_step_184 : decode b_T_step 184 = .ok (.dup, 1) := by decide +kernel
theorem d_T_step_185 : decode b_T_step 185 = .ok (.getfield 25, 3) := by decide +kernel
theorem d_T_step_188 : decode b_T_step 188 = .ok (.iconst 1, 1) := by decide +kernel
theorem d_T_step_189 : decode b_T_step 189 = .ok (.iadd, 1) := by decide +kernel
theorem d_T_step_190 : decode b_T_step 190 = .ok (.putfield 25, 3) := by decide +kernel
theorem d_T_step_193 : decode b_T_step 193 = .ok (.goto 8, 3) := by decide +kernel
theorem d_T_step_196 : decode b_T_step 196 = .ok (.aload_n 0, 1) := by decide +kernel
theorem d_T_step_197 : decode b_T_step 197 = .ok (.iconst 0, 1) := by decide +kernel
theorem d_T_step_198 : decode b_T_step 198 = .ok (.putfield 19, 3) := by decide +kernel
theorem d_T_step_201 : decode b_T_step 201 = .ok (.return_, 1) := by decide +kernel
theorem d_T_kindName_0 : decode b_T_kindName 0 = .ok (.iload_n 0, 1) := by decide +kernel
theorem d_T_kindName_1 : decode b_T_kindName 1 = .ok (.tableswitch 50 1 5 #[35, 38, 41, 44, 47], 35) := by decide +kernel
theorem d_T_kindName_36 : decode b_T_kindName 36 = .ok (.ldc 104, 2) := by decide +kernel
theorem d_T_kindName_38 : decode b_T_kindName 38 = .ok (.areturn, 1) := by decide +kernel
theorem d_T_kindName_39 : decode b_T_kindName 39 = .ok (.ldc 106, 2) := by decide +kernel
theorem d_T_kindName_41 : decode b_T_kindName 41 = .ok (.areturn, 1) := by decide +kernel
theorem d_T_kindName_42 : decode b_T_kindName 42 = .ok (.ldc 108, 2) := by decide +kernel
theorem d_T_kindName_44 : decode b_T_kindName 44 = .ok (.areturn, 1) := by decide +kernel
theorem d_T_kindName_45 : decode b_T_kindName 45 = .ok (.ldc 110, 2) := by decide +kernel
theorem d_T_kindName_47 : decode b_T_kindName 47 = .ok (.areturn, 1) := by decide +kernel
theorem d_T_kindName_48 : decode b_T_kindName 48 = .ok (.ldc 112, 2) := by decide +kernel
theorem d_T_kindName_50 : decode b_T_kindName 50 = .ok (.areturn, 1) := by decide +kernel
theorem d_T_kindName_51 : decode b_T_kindName 51 = .ok (.ldc 114, 2) := by decide +kernel
theorem d_T_kindName_53 : decode b_T_kindName 53 = .ok (.areturn, 1) := by decide +kernel
theorem d_T_lawName_0 : decode b_T_lawName 0 = .ok (.iload_n 0, 1) := by decide +kernel
theorem d_T_lawName_1 : decode b_T_lawName 1 = .ok (.tableswitch 36 0 2 #[27, 30, 33], 27) := by decide +kernel
theorem d_T_lawName_28 : decode b_T_lawName 28 = .ok (.ldc 116, 2) := by decide +kernel
theorem d_T_lawName_30 : decode b_T_lawName 30 = .ok (.areturn, 1) := by decide +kernel
theorem d_T_lawName_31 : decode b_T_lawName 31 = .ok (.ldc 118, 2) := by decide +kernel
theorem d_T_lawName_33 : decode b_T_lawName 33 = .ok (.areturn, 1) := by decide +kernel
theorem d_T_lawName_34 : decode b_T_lawName 34 = .ok (.ldc 120, 2) := by decide +kernel
theorem d_T_lawName_36 : decode b_T_lawName 36 = .ok (.areturn, 1) := by decide +kernel
theorem d_T_lawName_37 : decode b_T_lawName 37 = .ok (.ldc 122, 2) := by decide +kernel
theorem d_T_lawName_39 : decode b_T_lawName 39 = .ok (.areturn, 1) := by decide +kernel
theorem d_T_isName_0 : decode b_T_isName 0 = .ok (.aload_n 0, 1) := by decide +kernel
theorem d_T_isName_1 : decode b_T_isName 1 = .ok (.getfield 19, 3) := by decide +kernel
theorem d_T_isName_4 : decode b_T_isName 4 = .ok (.iconst 1, 1) := by decide +kernel
theorem d_T_isName_5 : decode b_T_isName 5 = .ok (.if_icmp .ne 19, 3) := by decide +kernel
theorem d_T_isName_8 : decode b_T_isName 8 = .ok (.aload_n 0, 1) := by decide +kernel
theorem d_T_isName_9 : decode b_T_isName 9 = .ok (.getfield 25, 3) := by decide +kernel
theorem d_T_isName_12 : decode b_T_isName 12 = .ok (.aload_n 0, 1) := by decide +kernel
theorem d_T_isName_13 : decode b_T_isName 13 = .ok (.getfield 22, 3) := by decide +kernel
theorem d_T_isName_16 : decode b_T_isName 16 = .ok (.isub, 1) := by decide +kernel
theorem d_T_isName_17 : decode b_T_isName 17 = .ok (.aload_n 1, 1) := by decide +kernel
theorem d_T_isName_18 : decode b_T_isName 18 = .ok (.invokevirtual 124, 3) := by decide +kernel
theorem d_T_isName_21 : decode b_T_isName 21 = .ok (.if_icmp .eq 5, 3) := by decide +kernel
theorem d_T_isName_24 : decode b_T_isName 24 = .ok (.iconst 0, 1) := by decide +kernel
theorem d_T_isName_25 : decode b_T_isName 25 = .ok (.ireturn, 1) := by decide +kernel
theorem d_T_isName_26 : decode b_T_isName 26 = .ok (.iconst 0, 1) := by decide +kernel
theorem d_T_isName_27 : decode b_T_isName 27 = .ok (.istore_n 2, 1) := by decide +kernel
theorem d_T_isName_28 : decode b_T_isName 28 = .ok (.iload_n 2, 1) := by decide +kernel
theorem d_T_isName_29 : decode b_T_isName 29 = .ok (.aload_n 1, 1) := by decide +kernel
theorem d_T_isName_30 : decode b_T_isName 30 = .ok (.invokevirtual 124, 3) := by decide +kernel
theorem d_T_isName_33 : decode b_T_isName 33 = .ok (.if_icmp .ge 29, 3) := by decide +kernel
theorem d_T_isName_36 : decode b_T_isName 36 = .ok (.aload_n 0, 1) := by decide +kernel
theorem d_T_isName_37 : decode b_T_isName 37 = .ok (.aload_n 0, 1) := by decide +kernel
theorem d_T_isName_38 : decode b_T_isName 38 = .ok (.getfield 22, 3) := by decide +kernel
theorem d_T_isName_41 : decode b_T_isName 41 = .ok (.iload_n 2, 1) := by decide +kernel
theorem d_T_isName_42 : decode b_T_isName 42 = .ok (.iadd, 1) := by decide +kernel
theorem d_T_isName_43 : decode b_T_isName 43 = .ok (.invokevirtual 130, 3) := by decide +kernel
theorem d_T_isName_46 : decode b_T_isName 46 = .ok (.aload_n 1, 1) := by decide +kernel
theorem d_T_isName_47 : decode b_T_isName 47 = .ok (.iload_n 2, 1) := by decide +kernel
theorem d_T_isName_48 : decode b_T_isName 48 = .ok (.invokevirtual 133, 3) := by decide +kernel
theorem d_T_isName_51 : decode b_T_isName 51 = .ok (.if_icmp .eq 5, 3) := by decide +kernel
theorem d_T_isName_54 : decode b_T_isName 54 = .ok (.iconst 0, 1) := by decide +kernel
theorem d_T_isName_55 : decode b_T_isName 55 = .ok (.ireturn, 1) := by decide +kernel
theorem d_T_isName_56 : decode b_T_isName 56 = .ok (.iinc 2 1, 3) := by decide +kernel
theorem d_T_isName_59 : decode b_T_isName 59 = .ok (.goto (-31), 3) := by decide +kernel
theorem d_T_isName_62 : decode b_T_isName 62 = .ok (.iconst 1, 1) := by decide +kernel
theorem d_T_isName_63 : decode b_T_isName 63 = .ok (.ireturn, 1) := by decide +kernel
theorem d_T_takeName_0 : decode b_T_takeName 0 = .ok (.aload_n 0, 1) := by decide +kernel
theorem d_T_takeName_1 : decode b_T_takeName 1 = .ok (.aload_n 1, 1) := by decide +kernel
theorem d_T_takeName_2 : decode b_T_takeName 2 = .ok (.invokevirtual 39, 3) := by decide +kernel
theorem d_T_takeName_5 : decode b_T_takeName 5 = .ok (.ifCond .ne 5, 3) := by decide +kernel
theorem d_T_takeName_8 : decode b_T_takeName 8 = .ok (.iconst 0, 1) := by decide +kernel
theorem d_T_takeName_9 : decode b_T_takeName 9 = .ok (.ireturn, 1) := by decide +kernel
theorem d_T_takeName_10 : decode b_T_takeName 10 = .ok (.aload_n 0, 1) := by decide +kernel
theorem d_T_takeName_11 : decode b_T_takeName 11 = .ok (.invokevirtual 28, 3) := by decide +kernel
theorem d_T_takeName_14 : decode b_T_takeName 14 = .ok (.iconst 1, 1) := by decide +kernel
theorem d_T_takeName_15 : decode b_T_takeName 15 = .ok (.ireturn, 1) := by decide +kernel
theorem d_T_takeNumber_0 : decode b_T_takeNumber 0 = .ok (.aload_n 0, 1) := by decide +kernel
theorem d_T_takeNumber_1 : decode b_T_takeNumber 1 = .ok (.getfield 19, 3) := by decide +kernel
theorem d_T_takeNumber_4 : decode b_T_takeNumber 4 = .ok (.iconst 2, 1) := by decide +kernel
theorem d_T_takeNumber_5 : decode b_T_takeNumber 5 = .ok (.if_icmp .ne 16, 3) := by decide +kernel
theorem d_T_takeNumber_8 : decode b_T_takeNumber 8 = .ok (.aload_n 0, 1) := by decide +kernel
theorem d_T_takeNumber_9 : decode b_T_takeNumber 9 = .ok (.getfield 25, 3) := by decide +kernel
theorem d_T_takeNumber_12 : decode b_T_takeNumber 12 = .ok (.aload_n 0, 1) := by decide +kernel
theorem d_T_takeNumber_13 : decode b_T_takeNumber 13 = .ok (.getfield 22, 3) := by decide +kernel
theorem d_T_takeNumber_16 : decode b_T_takeNumber 16 = .ok (.isub, 1) := by decide +kernel
theorem d_T_takeNumber_17 : decode b_T_takeNumber 17 = .ok (.iconst 3, 1) := by decide +kernel
theorem d_T_takeNumber_18 : decode b_T_takeNumber 18 = .ok (.if_icmp .le 5, 3) := by decide +kernel
theorem d_T_takeNumber_21 : decode b_T_takeNumber 21 = .ok (.iconst (-1), 1) := by decide +kernel
theorem d_T_takeNumber_22 : decode b_T_takeNumber 22 = .ok (.ireturn, 1) := by decide +kernel
theorem d_T_takeNumber_23 : decode b_T_takeNumber 23 = .ok (.iconst 0, 1) := by decide +kernel
theorem d_T_takeNumber_24 : decode b_T_takeNumber 24 = .ok (.istore_n 2, 1) := by decide +kernel
theorem d_T_takeNumber_25 : decode b_T_takeNumber 25 = .ok (.aload_n 0, 1) := by decide +kernel
theorem d_T_takeNumber_26 : decode b_T_takeNumber 26 = .ok (.getfield 22, 3) := by decide +kernel
theorem d_T_takeNumber_29 : decode b_T_takeNumber 29 = .ok (.istore_n 3, 1) := by decide +kernel
theorem d_T_takeNumber_30 : decode b_T_takeNumber 30 = .ok (.iload_n 3, 1) := by decide +kernel
theorem d_T_takeNumber_31 : decode b_T_takeNumber 31 = .ok (.aload_n 0, 1) := by decide +kernel
theorem d_T_takeNumber_32 : decode b_T_takeNumber 32 = .ok (.getfield 25, 3) := by decide +kernel
theorem d_T_takeNumber_35 : decode b_T_takeNumber 35 = .ok (.if_icmp .ge 23, 3) := by decide +kernel
theorem d_T_takeNumber_38 : decode b_T_takeNumber 38 = .ok (.iload_n 2, 1) := by decide +kernel
theorem d_T_takeNumber_39 : decode b_T_takeNumber 39 = .ok (.bipush 10, 2) := by decide +kernel
theorem d_T_takeNumber_41 : decode b_T_takeNumber 41 = .ok (.imul, 1) := by decide +kernel
theorem d_T_takeNumber_42 : decode b_T_takeNumber 42 = .ok (.aload_n 0, 1) := by decide +kernel
theorem d_T_takeNumber_43 : decode b_T_takeNumber 43 = .ok (.iload_n 3, 1) := by decide +kernel
theorem d_T_takeNumber_44 : decode b_T_takeNumber 44 = .ok (.invokevirtual 130, 3) := by decide +kernel
theorem d_T_takeNumber_47 : decode b_T_takeNumber 47 = .ok (.iadd, 1) := by decide +kernel
theorem d_T_takeNumber_48 : decode b_T_takeNumber 48 = .ok (.bipush 48, 2) := by decide +kernel
theorem d_T_takeNumber_50 : decode b_T_takeNumber 50 = .ok (.isub, 1) := by decide +kernel
theorem d_T_takeNumber_51 : decode b_T_takeNumber 51 = .ok (.istore_n 2, 1) := by decide +kernel
theorem d_T_takeNumber_52 : decode b_T_takeNumber 52 = .ok (.iinc 3 1, 3) := by decide +kernel
theorem d_T_takeNumber_55 : decode b_T_takeNumber 55 = .ok (.goto (-25), 3) := by decide +kernel
theorem d_T_takeNumber_58 : decode b_T_takeNumber 58 = .ok (.iload_n 2, 1) := by decide +kernel
theorem d_T_takeNumber_59 : decode b_T_takeNumber 59 = .ok (.iload_n 1, 1) := by decide +kernel
theorem d_T_takeNumber_60 : decode b_T_takeNumber 60 = .ok (.if_icmp .le 5, 3) := by decide +kernel
theorem d_T_takeNumber_63 : decode b_T_takeNumber 63 = .ok (.iconst (-1), 1) := by decide +kernel
theorem d_T_takeNumber_64 : decode b_T_takeNumber 64 = .ok (.ireturn, 1) := by decide +kernel
theorem d_T_takeNumber_65 : decode b_T_takeNumber 65 = .ok (.aload_n 0, 1) := by decide +kernel
theorem d_T_takeNumber_66 : decode b_T_takeNumber 66 = .ok (.invokevirtual 28, 3) := by decide +kernel
theorem d_T_takeNumber_69 : decode b_T_takeNumber 69 = .ok (.iload_n 2, 1) := by decide +kernel
theorem d_T_takeNumber_70 : decode b_T_takeNumber 70 = .ok (.ireturn, 1) := by decide +kernel
theorem d_T_takeEndOfLine_0 : decode b_T_takeEndOfLine 0 = .ok (.aload_n 0, 1) := by decide +kernel
theorem d_T_takeEndOfLine_1 : decode b_T_takeEndOfLine 1 = .ok (.getfield 19, 3) := by decide +kernel
theorem d_T_takeEndOfLine_4 : decode b_T_takeEndOfLine 4 = .ok (.iconst 3, 1) := by decide +kernel
theorem d_T_takeEndOfLine_5 : decode b_T_takeEndOfLine 5 = .ok (.if_icmp .ne 16, 3) := by decide +kernel
theorem d_T_takeEndOfLine_8 : decode b_T_takeEndOfLine 8 = .ok (.aload_n 0, 1) := by decide +kernel
theorem d_T_takeEndOfLine_9 : decode b_T_takeEndOfLine 9 = .ok (.aload_n 0, 1) := by decide +kernel
theorem d_T_takeEndOfLine_10 : decode b_T_takeEndOfLine 10 = .ok (.getfield 22, 3) := by decide +kernel
theorem d_T_takeEndOfLine_13 : decode b_T_takeEndOfLine 13 = .ok (.invokevirtual 130, 3) := by decide +kernel
theorem d_T_takeEndOfLine_16 : decode b_T_takeEndOfLine 16 = .ok (.bipush 59, 2) := by decide +kernel
theorem d_T_takeEndOfLine_18 : decode b_T_takeEndOfLine 18 = .ok (.if_icmp .eq 5, 3) := by decide +kernel
theorem d_T_takeEndOfLine_21 : decode b_T_takeEndOfLine 21 = .ok (.iconst 0, 1) := by decide +kernel
theorem d_T_takeEndOfLine_22 : decode b_T_takeEndOfLine 22 = .ok (.ireturn, 1) := by decide +kernel
theorem d_T_takeEndOfLine_23 : decode b_T_takeEndOfLine 23 = .ok (.aload_n 0, 1) := by decide +kernel
theorem d_T_takeEndOfLine_24 : decode b_T_takeEndOfLine 24 = .ok (.invokevirtual 28, 3) := by decide +kernel
theorem d_T_takeEndOfLine_27 : decode b_T_takeEndOfLine 27 = .ok (.iconst 1, 1) := by decide +kernel
theorem d_T_takeEndOfLine_28 : decode b_T_takeEndOfLine 28 = .ok (.ireturn, 1) := by decide +kernel
theorem d_T_readBarge_0 : decode b_T_readBarge 0 = .ok (.aload_n 1, 1) := by decide +kernel
theorem d_T_readBarge_1 : decode b_T_readBarge 1 = .ok (.getfield 61, 3) := by decide +kernel
theorem d_T_readBarge_4 : decode b_T_readBarge 4 = .ok (.bipush 8, 2) := by decide +kernel
theorem d_T_readBarge_6 : decode b_T_readBarge 6 = .ok (.if_icmp .lt 5, 3) := by decide +kernel
theorem d_T_readBarge_9 : decode b_T_readBarge 9 = .ok (.iconst 0, 1) := by decide +kernel
theorem d_T_readBarge_10 : decode b_T_readBarge 10 = .ok (.ireturn, 1) := by decide +kernel
theorem d_T_readBarge_11 : decode b_T_readBarge 11 = .ok (.aload_n 0, 1) := by decide +kernel
theorem d_T_readBarge_12 : decode b_T_readBarge 12 = .ok (.invokevirtual 28, 3) := by decide +kernel
theorem d_T_readBarge_15 : decode b_T_readBarge 15 = .ok (.aload_n 0, 1) := by decide +kernel
theorem d_T_readBarge_16 : decode b_T_readBarge 16 = .ok (.ldc 66, 2) := by decide +kernel
theorem d_T_readBarge_18 : decode b_T_readBarge 18 = .ok (.invokevirtual 50, 3) := by decide +kernel
theorem d_T_readBarge_21 : decode b_T_readBarge 21 = .ok (.ifCond .eq 12, 3) := by decide +kernel
theorem d_T_readBarge_24 : decode b_T_readBarge 24 = .ok (.aload_n 0, 1) := by decide +kernel
theorem d_T_readBarge_25 : decode b_T_readBarge 25 = .ok (.bipush 9, 2) := by decide +kernel
theorem d_T_readBarge_27 : decode b_T_readBarge 27 = .ok (.invokevirtual 68, 3) := by decide +kernel
theorem d_T_readBarge_30 : decode b_T_readBarge 30 = .ok (.goto 4, 3) := by decide +kernel
theorem d_T_readBarge_33 : decode b_T_readBarge 33 = .ok (.iconst (-1), 1) := by decide +kernel
theorem d_T_readBarge_34 : decode b_T_readBarge 34 = .ok (.istore_n 3, 1) := by decide +kernel
theorem d_T_readBarge_35 : decode b_T_readBarge 35 = .ok (.iload_n 3, 1) := by decide +kernel
theorem d_T_readBarge_36 : decode b_T_readBarge 36 = .ok (.ifCond .lt 21, 3) := by decide +kernel
theorem d_T_readBarge_39 : decode b_T_readBarge 39 = .ok (.aload_n 0, 1) := by decide +kernel
theorem d_T_readBarge_40 : decode b_T_readBarge 40 = .ok (.ldc 72, 2) := by decide +kernel
theorem d_T_readBarge_42 : decode b_T_readBarge 42 = .ok (.invokevirtual 50, 3) := by decide +kernel
theorem d_T_readBarge_45 : decode b_T_readBarge 45 = .ok (.ifCond .eq 12, 3) := by decide +kernel
theorem d_T_readBarge_48 : decode b_T_readBarge 48 = .ok (.aload_n 0, 1) := by decide +kernel
theorem d_T_readBarge_49 : decode b_T_readBarge 49 = .ok (.bipush 9, 2) := by decide +kernel
theorem d_T_readBarge_51 : decode b_T_readBarge 51 = .ok (.invokevirtual 68, 3) := by decide +kernel
theorem d_T_readBarge_54 : decode b_T_readBarge 54 = .ok (.goto 4, 3) := by decide +kernel
theorem d_T_readBarge_57 : decode b_T_readBarge 57 = .ok (.iconst (-1), 1) := by decide +kernel
theorem d_T_readBarge_58 : decode b_T_readBarge 58 = .ok (.istore 4, 2) := by decide +kernel
theorem d_T_readBarge_60 : decode b_T_readBarge 60 = .ok (.iload 4, 2) := by decide +kernel
theorem d_T_readBarge_62 : decode b_T_readBarge 62 = .ok (.ifCond .ge 5, 3) := by decide +kernel
theorem d_T_readBarge_65 : decode b_T_readBarge 65 = .ok (.iconst 0, 1) := by decide +kernel
theorem d_T_readBarge_66 : decode b_T_readBarge 66 = .ok (.ireturn, 1) := by decide +kernel
theorem d_T_readBarge_67 : decode b_T_readBarge 67 = .ok (.aload_n 0, 1) := by decide +kernel
theorem d_T_readBarge_68 : decode b_T_readBarge 68 = .ok (.ldc 74, 2) := by decide +kernel
theorem d_T_readBarge_70 : decode b_T_readBarge 70 = .ok (.invokevirtual 50, 3) := by decide +kernel
theorem d_T_readBarge_73 : decode b_T_readBarge 73 = .ok (.ifCond .eq 12, 3) := by decide +kernel
theorem d_T_readBarge_76 : decode b_T_readBarge 76 = .ok (.aload_n 0, 1) := by decide +kernel
theorem d_T_readBarge_77 : decode b_T_readBarge 77 = .ok (.bipush 99, 2) := by decide +kernel
theorem d_T_readBarge_79 : decode b_T_readBarge 79 = .ok (.invokevirtual 68, 3) := by decide +kernel
theorem d_T_readBarge_82 : decode b_T_readBarge 82 = .ok (.goto 5, 3) := by decide +kernel
theorem d_T_readBarge_85 : decode b_T_readBarge 85 = .ok (.bipush 50, 2) := by decide +kernel
theorem d_T_readBarge_87 : decode b_T_readBarge 87 = .ok (.istore 5, 2) := by decide +kernel
theorem d_T_readBarge_89 : decode b_T_readBarge 89 = .ok (.iload 5, 2) := by decide +kernel
theorem d_T_readBarge_91 : decode b_T_readBarge 91 = .ok (.ifCond .ge 5, 3) := by decide +kernel
theorem d_T_readBarge_94 : decode b_T_readBarge 94 = .ok (.iconst 0, 1) := by decide +kernel
theorem d_T_readBarge_95 : decode b_T_readBarge 95 = .ok (.ireturn, 1) := by decide +kernel
theorem d_T_readBarge_96 : decode b_T_readBarge 96 = .ok (.aload_n 0, 1) := by decide +kernel
theorem d_T_readBarge_97 : decode b_T_readBarge 97 = .ok (.ldc 76, 2) := by decide +kernel
theorem d_T_readBarge_99 : decode b_T_readBarge 99 = .ok (.invokevirtual 50, 3) := by decide +kernel
theorem d_T_readBarge_102 : decode b_T_readBarge 102 = .ok (.ifCond .eq 7, 3) := by decide +kernel
theorem d_T_readBarge_105 : decode b_T_readBarge 105 = .ok (.iconst 1, 1) := by decide +kernel
theorem d_T_readBarge_106 : decode b_T_readBarge 106 = .ok (.goto 4, 3) := by decide +kernel
theorem d_T_readBarge_109 : decode b_T_readBarge 109 = .ok (.iconst 0, 1) := by decide +kernel
theorem d_T_readBarge_110 : decode b_T_readBarge 110 = .ok (.istore 6, 2) := by decide +kernel
theorem d_T_readBarge_112 : decode b_T_readBarge 112 = .ok (.aload_n 0, 1) := by decide +kernel
theorem d_T_readBarge_113 : decode b_T_readBarge 113 = .ok (.invokevirtual 78, 3) := by decide +kernel
theorem d_T_readBarge_116 : decode b_T_readBarge 116 = .ok (.ifCond .ne 5, 3) := by decide +kernel
theorem d_T_readBarge_119 : decode b_T_readBarge 119 = .ok (.iconst 0, 1) := by decide +kernel
theorem d_T_readBarge_120 : decode b_T_readBarge 120 = .ok (.ireturn, 1) := by decide +kernel
theorem d_T_readBarge_121 : decode b_T_readBarge 121 = .ok (.aload_n 1, 1) := by decide +kernel
theorem d_T_readBarge_122 : decode b_T_readBarge 122 = .ok (.iload_n 2, 1) := by decide +kernel
theorem d_T_readBarge_123 : decode b_T_readBarge 123 = .ok (.iload 5, 2) := by decide +kernel
theorem d_T_readBarge_125 : decode b_T_readBarge 125 = .ok (.iload 6, 2) := by decide +kernel
theorem d_T_readBarge_127 : decode b_T_readBarge 127 = .ok (.iload_n 3, 1) := by decide +kernel
theorem d_T_readBarge_128 : decode b_T_readBarge 128 = .ok (.iload 4, 2) := by decide +kernel
theorem d_T_readBarge_130 : decode b_T_readBarge 130 = .ok (.invokevirtual 82, 3) := by decide +kernel
theorem d_T_readBarge_133 : decode b_T_readBarge 133 = .ok (.iconst 1, 1) := by decide +kernel
theorem d_T_readBarge_134 : decode b_T_readBarge 134 = .ok (.ireturn, 1) := by decide +kernel
theorem d_T_readLaw_0 : decode b_T_readLaw 0 = .ok (.iload_n 2, 1) := by decide +kernel
theorem d_T_readLaw_1 : decode b_T_readLaw 1 = .ok (.invokestatic 86, 3) := by decide +kernel
theorem d_T_readLaw_4 : decode b_T_readLaw 4 = .ok (.ifCond .ne 5, 3) := by decide +kernel
theorem d_T_readLaw_7 : decode b_T_readLaw 7 = .ok (.iconst 0, 1) := by decide +kernel
theorem d_T_readLaw_8 : decode b_T_readLaw 8 = .ok (.ireturn, 1) := by decide +kernel
theorem d_T_readLaw_9 : decode b_T_readLaw 9 = .ok (.aload_n 0, 1) := by decide +kernel
theorem d_T_readLaw_10 : decode b_T_readLaw 10 = .ok (.getstatic 90, 3) := by decide +kernel
theorem d_T_readLaw_13 : decode b_T_readLaw 13 = .ok (.iload_n 2, 1) := by decide +kernel
theorem d_T_readLaw_14 : decode b_T_readLaw 14 = .ok (.iaload, 1) := by decide +kernel
theorem d_T_readLaw_15 : decode b_T_readLaw 15 = .ok (.invokevirtual 68, 3) := by decide +kernel
theorem d_T_readLaw_18 : decode b_T_readLaw 18 = .ok (.istore_n 3, 1) := by decide +kernel
theorem d_T_readLaw_19 : decode b_T_readLaw 19 = .ok (.iload_n 3, 1) := by decide +kernel
theorem d_T_readLaw_20 : decode b_T_readLaw 20 = .ok (.ifCond .lt 10, 3) := by decide +kernel
theorem d_T_readLaw_23 : decode b_T_readLaw 23 = .ok (.aload_n 0, 1) := by decide +kernel
theorem d_T_readLaw_24 : decode b_T_readLaw 24 = .ok (.invokevirtual 78, 3) := by decide +kernel
theorem d_T_readLaw_27 : decode b_T_readLaw 27 = .ok (.ifCond .ne 5, 3) := by decide +kernel
theorem d_T_readLaw_30 : decode b_T_readLaw 30 = .ok (.iconst 0, 1) := by decide +kernel
theorem d_T_readLaw_31 : decode b_T_readLaw 31 = .ok (.ireturn, 1) := by decide +kernel
theorem d_T_readLaw_32 : decode b_T_readLaw 32 = .ok (.aload_n 1, 1) := by decide +kernel
theorem d_T_readLaw_33 : decode b_T_readLaw 33 = .ok (.getfield 94, 3) := by decide +kernel
theorem d_T_readLaw_36 : decode b_T_readLaw 36 = .ok (.iload_n 2, 1) := by decide +kernel
theorem d_T_readLaw_37 : decode b_T_readLaw 37 = .ok (.iload_n 3, 1) := by decide +kernel
theorem d_T_readLaw_38 : decode b_T_readLaw 38 = .ok (.iastore, 1) := by decide +kernel
theorem d_T_readLaw_39 : decode b_T_readLaw 39 = .ok (.iconst 1, 1) := by decide +kernel
theorem d_T_readLaw_40 : decode b_T_readLaw 40 = .ok (.ireturn, 1) := by decide +kernel
theorem d_T_readNoise_0 : decode b_T_readNoise 0 = .ok (.aload_n 0, 1) := by decide +kernel
theorem d_T_readNoise_1 : decode b_T_readNoise 1 = .ok (.bipush 9, 2) := by decide +kernel
theorem d_T_readNoise_3 : decode b_T_readNoise 3 = .ok (.invokevirtual 68, 3) := by decide +kernel
theorem d_T_readNoise_6 : decode b_T_readNoise 6 = .ok (.istore_n 2, 1) := by decide +kernel
theorem d_T_readNoise_7 : decode b_T_readNoise 7 = .ok (.iload_n 2, 1) := by decide +kernel
theorem d_T_readNoise_8 : decode b_T_readNoise 8 = .ok (.ifCond .lt 21, 3) := by decide +kernel
theorem d_T_readNoise_11 : decode b_T_readNoise 11 = .ok (.aload_n 0, 1) := by decide +kernel
theorem d_T_readNoise_12 : decode b_T_readNoise 12 = .ok (.ldc 97, 2) := by decide +kernel
theorem d_T_readNoise_14 : decode b_T_readNoise 14 = .ok (.invokevirtual 50, 3) := by decide +kernel
theorem d_T_readNoise_17 : decode b_T_readNoise 17 = .ok (.ifCond .eq 12, 3) := by decide +kernel
theorem d_T_readNoise_20 : decode b_T_readNoise 20 = .ok (.aload_n 0, 1) := by decide +kernel
theorem d_T_readNoise_21 : decode b_T_readNoise 21 = .ok (.bipush 9, 2) := by decide +kernel
theorem d_T_readNoise_23 : decode b_T_readNoise 23 = .ok (.invokevirtual 68, 3) := by decide +kernel
theorem d_T_readNoise_26 : decode b_T_readNoise 26 = .ok (.goto 4, 3) := by decide +kernel
theorem d_T_readNoise_29 : decode b_T_readNoise 29 = .ok (.iconst (-1), 1) := by decide +kernel
theorem d_T_readNoise_30 : decode b_T_readNoise 30 = .ok (.istore_n 3, 1) := by decide +kernel
theorem d_T_readNoise_31 : decode b_T_readNoise 31 = .ok (.iload_n 3, 1) := by decide +kernel
theorem d_T_readNoise_32 : decode b_T_readNoise 32 = .ok (.ifCond .lt 17, 3) := by decide +kernel
theorem d_T_readNoise_35 : decode b_T_readNoise 35 = .ok (.iload_n 2, 1) := by decide +kernel
theorem d_T_readNoise_36 : decode b_T_readNoise 36 = .ok (.invokestatic 99, 3) := by decide +kernel
theorem d_T_readNoise_39 : decode b_T_readNoise 39 = .ok (.ifCond .eq 10, 3) := by decide +kernel
theorem d_T_readNoise_42 : decode b_T_readNoise 42 = .ok (.aload_n 0, 1) := by decide +kernel
theorem d_T_readNoise_43 : decode b_T_readNoise 43 = .ok (.invokevirtual 78, 3) := by decide +kernel
theorem d_T_readNoise_46 : decode b_T_readNoise 46 = .ok (.ifCond .ne 5, 3) := by decide +kernel
theorem d_T_readNoise_49 : decode b_T_readNoise 49 = .ok (.iconst 0, 1) := by decide +kernel
theorem d_T_readNoise_50 : decode b_T_readNoise 50 = .ok (.ireturn, 1) := by decide +kernel
theorem d_T_readNoise_51 : decode b_T_readNoise 51 = .ok (.aload_n 1, 1) := by decide +kernel
theorem d_T_readNoise_52 : decode b_T_readNoise 52 = .ok (.getfield 102, 3) := by decide +kernel
theorem d_T_readNoise_55 : decode b_T_readNoise 55 = .ok (.iload_n 2, 1) := by decide +kernel
theorem d_T_readNoise_56 : decode b_T_readNoise 56 = .ok (.iload_n 3, 1) := by decide +kernel
theorem d_T_readNoise_57 : decode b_T_readNoise 57 = .ok (.iastore, 1) := by decide +kernel
theorem d_T_readNoise_58 : decode b_T_readNoise 58 = .ok (.iconst 1, 1) := by decide +kernel
theorem d_T_readNoise_59 : decode b_T_readNoise 59 = .ok (.ireturn, 1) := by decide +kernel
theorem d_T_readLine_0 : decode b_T_readLine 0 = .ok (.iconst 0, 1) := by decide +kernel
theorem d_T_readLine_1 : decode b_T_readLine 1 = .ok (.istore_n 2, 1) := by decide +kernel
theorem d_T_readLine_2 : decode b_T_readLine 2 = .ok (.iload_n 2, 1) := by decide +kernel
theorem d_T_readLine_3 : decode b_T_readLine 3 = .ok (.bipush 6, 2) := by decide +kernel
theorem d_T_readLine_5 : decode b_T_readLine 5 = .ok (.if_icmp .ge 27, 3) := by decide +kernel
theorem d_T_readLine_8 : decode b_T_readLine 8 = .ok (.aload_n 0, 1) := by decide +kernel
theorem d_T_readLine_9 : decode b_T_readLine 9 = .ok (.iload_n 2, 1) := by decide +kernel
theorem d_T_readLine_10 : decode b_T_readLine 10 = .ok (.invokestatic 35, 3) := by decide +kernel
theorem d_T_readLine_13 : decode b_T_readLine 13 = .ok (.invokevirtual 39, 3) := by decide +kernel
theorem d_T_readLine_16 : decode b_T_readLine 16 = .ok (.ifCond .eq 10, 3) := by decide +kernel
theorem d_T_readLine_19 : decode b_T_readLine 19 = .ok (.aload_n 0, 1) := by decide +kernel
theorem d_T_readLine_20 : decode b_T_readLine 20 = .ok (.aload_n 1, 1) := by decide +kernel
theorem d_T_readLine_21 : decode b_T_readLine 21 = .ok (.iload_n 2, 1) := by decide +kernel
theorem d_T_readLine_22 : decode b_T_readLine 22 = .ok (.invokevirtual 43, 3) := by decide +kernel
theorem d_T_readLine_25 : decode b_T_readLine 25 = .ok (.ireturn, 1) := by decide +kernel
theorem d_T_readLine_26 : decode b_T_readLine 26 = .ok (.iinc 2 1, 3) := by decide +kernel
theorem d_T_readLine_29 : decode b_T_readLine 29 = .ok (.goto (-27), 3) := by decide +kernel
theorem d_T_readLine_32 : decode b_T_readLine 32 = .ok (.iconst 0, 1) := by decide +kernel
theorem d_T_readLine_33 : decode b_T_readLine 33 = .ok (.istore_n 2, 1) := by decide +kernel
theorem d_T_readLine_34 : decode b_T_readLine 34 = .ok (.iload_n 2, 1) := by decide +kernel
theorem d_T_readLine_35 : decode b_T_readLine 35 = .ok (.iconst 4, 1) := by decide +kernel
theorem d_T_readLine_36 : decode b_T_readLine 36 = .ok (.if_icmp .ge 27, 3) := by decide +kernel
theorem d_T_readLine_39 : decode b_T_readLine 39 = .ok (.aload_n 0, 1) := by decide +kernel
theorem d_T_readLine_40 : decode b_T_readLine 40 = .ok (.iload_n 2, 1) := by decide +kernel
theorem d_T_readLine_41 : decode b_T_readLine 41 = .ok (.invokestatic 47, 3) := by decide +kernel
theorem d_T_readLine_44 : decode b_T_readLine 44 = .ok (.invokevirtual 50, 3) := by decide +kernel
theorem d_T_readLine_47 : decode b_T_readLine 47 = .ok (.ifCond .eq 10, 3) := by decide +kernel
theorem d_T_readLine_50 : decode b_T_readLine 50 = .ok (.aload_n 0, 1) := by decide +kernel
theorem d_T_readLine_51 : decode b_T_readLine 51 = .ok (.aload_n 1, 1) := by decide +kernel
theorem d_T_readLine_52 : decode b_T_readLine 52 = .ok (.iload_n 2, 1) := by decide +kernel
theorem d_T_readLine_53 : decode b_T_readLine 53 = .ok (.invokevirtual 53, 3) := by decide +kernel
theorem d_T_readLine_56 : decode b_T_readLine 56 = .ok (.ireturn, 1) := by decide +kernel
theorem d_T_readLine_57 : decode b_T_readLine 57 = .ok (.iinc 2 1, 3) := by decide +kernel
theorem d_T_readLine_60 : decode b_T_readLine 60 = .ok (.goto (-26), 3) := by decide +kernel
theorem d_T_readLine_63 : decode b_T_readLine 63 = .ok (.aload_n 0, 1) := by decide +kernel
theorem d_T_readLine_64 : decode b_T_readLine 64 = .ok (.ldc 56, 2) := by decide +kernel
theorem d_T_readLine_66 : decode b_T_readLine 66 = .ok (.invokevirtual 50, 3) := by decide +kernel
theorem d_T_readLine_69 : decode b_T_readLine 69 = .ok (.ifCond .eq 15, 3) := by decide +kernel
theorem d_T_readLine_72 : decode b_T_readLine 72 = .ok (.aload_n 0, 1) := by decide +kernel
theorem d_T_readLine_73 : decode b_T_readLine 73 = .ok (.aload_n 1, 1) := by decide +kernel
theorem d_T_readLine_74 : decode b_T_readLine 74 = .ok (.invokevirtual 58, 3) := by decide +kernel
theorem d_T_readLine_77 : decode b_T_readLine 77 = .ok (.ifCond .eq 7, 3) := by decide +kernel
theorem d_T_readLine_80 : decode b_T_readLine 80 = .ok (.iconst 1, 1) := by decide +kernel
theorem d_T_readLine_81 : decode b_T_readLine 81 = .ok (.goto 4, 3) := by decide +kernel
theorem d_T_readLine_84 : decode b_T_readLine 84 = .ok (.iconst 0, 1) := by decide +kernel
theorem d_T_readLine_85 : decode b_T_readLine 85 = .ok (.ireturn, 1) := by decide +kernel
theorem d_T_readInto_0 : decode b_T_readInto 0 = .ok (.aload_n 0, 1) := by decide +kernel
theorem d_T_readInto_1 : decode b_T_readInto 1 = .ok (.iconst 0, 1) := by decide +kernel
theorem d_T_readInto_2 : decode b_T_readInto 2 = .ok (.putfield 25, 3) := by decide +kernel
theorem d_T_readInto_5 : decode b_T_readInto 5 = .ok (.aload_n 0, 1) := by decide +kernel
theorem d_T_readInto_6 : decode b_T_readInto 6 = .ok (.invokevirtual 28, 3) := by decide +kernel
theorem d_T_readInto_9 : decode b_T_readInto 9 = .ok (.iconst 0, 1) := by decide +kernel
theorem d_T_readInto_10 : decode b_T_readInto 10 = .ok (.istore_n 2, 1) := by decide +kernel
theorem d_T_readInto_11 : decode b_T_readInto 11 = .ok (.iload_n 2, 1) := by decide +kernel
theorem d_T_readInto_12 : decode b_T_readInto 12 = .ok (.sipush 200, 3) := by decide +kernel
theorem d_T_readInto_15 : decode b_T_readInto 15 = .ok (.if_icmp .ge 29, 3) := by decide +kernel
theorem d_T_readInto_18 : decode b_T_readInto 18 = .ok (.aload_n 0, 1) := by decide +kernel
theorem d_T_readInto_19 : decode b_T_readInto 19 = .ok (.getfield 19, 3) := by decide +kernel
theorem d_T_readInto_22 : decode b_T_readInto 22 = .ok (.ifCond .eq 22, 3) := by decide +kernel
theorem d_T_readInto_25 : decode b_T_readInto 25 = .ok (.aload_n 0, 1) := by decide +kernel
theorem d_T_readInto_26 : decode b_T_readInto 26 = .ok (.aload_n 1, 1) := by decide +kernel
theorem d_T_readInto_27 : decode b_T_readInto 27 = .ok (.invokevirtual 31, 3) := by decide +kernel
theorem d_T_readInto_30 : decode b_T_readInto 30 = .ok (.ifCond .ne 8, 3) := by decide +kernel
theorem d_T_readInto_33 : decode b_T_readInto 33 = .ok (.aload_n 0, 1) := by decide +kernel
theorem d_T_readInto_34 : decode b_T_readInto 34 = .ok (.getfield 22, 3) := by decide +kernel
theorem d_T_readInto_37 : decode b_T_readInto 37 = .ok (.ireturn, 1) := by decide +kernel
theorem d_T_readInto_38 : decode b_T_readInto 38 = .ok (.iinc 2 1, 3) := by decide +kernel
theorem d_T_readInto_41 : decode b_T_readInto 41 = .ok (.goto (-30), 3) := by decide +kernel
theorem d_T_readInto_44 : decode b_T_readInto 44 = .ok (.iconst (-1), 1) := by decide +kernel
theorem d_T_readInto_45 : decode b_T_readInto 45 = .ok (.ireturn, 1) := by decide +kernel
