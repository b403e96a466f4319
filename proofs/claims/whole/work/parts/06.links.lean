theorem lk_A_3 : Cond.methodLink R_A 3 objectInit ∈ TB := tb_1 124 rfl rfl
theorem lk_A_9 : Cond.fieldLink R_A 9 R_A (F_A 0).2.1 (F_A 0).2.2.1 ∈ TB := tb_1 125 rfl rfl
theorem lk_A_15 : Cond.fieldLink R_A 15 R_A (F_A 1).2.1 (F_A 1).2.2.1 ∈ TB := tb_1 127 rfl rfl
theorem lk_A_19 : Cond.fieldLink R_A 19 R_A (F_A 2).2.1 (F_A 2).2.2.1 ∈ TB := tb_1 129 rfl rfl
theorem lk_A_22 : Cond.fieldLink R_A 22 R_A (F_A 3).2.1 (F_A 3).2.2.1 ∈ TB := tb_1 130 rfl rfl
theorem lk_A_25 : Cond.fieldLink R_A 25 R_A (F_A 4).2.1 (F_A 4).2.2.1 ∈ TB := tb_1 131 rfl rfl
theorem lk_A_28 : Cond.fieldLink R_A 28 R_A (F_A 5).2.1 (F_A 5).2.2.1 ∈ TB := tb_1 132 rfl rfl
theorem lk_A_32 : Cond.methodLink R_A 32 y_A_bodyOf ∈ TB := tb_4 2 rfl rfl
theorem lk_A_36 : Cond.methodLink R_A 36 y_A_run ∈ TB := tb_4 8 rfl rfl
theorem lk_A_40 : (R_A, 40, "BODIES") ∈ nwF := by simp [nwF, nwM]
theorem lk_A_43 : Cond.methodLink R_A 43 y_A_partedBy ∈ TB := tb_4 12 rfl rfl
theorem lk_C_3 : Cond.methodLink R_C 3 objectInit ∈ TB := tb_1 29 rfl rfl
theorem lk_C_9 : Cond.fieldLink R_C 9 R_C (F_C 0).2.1 (F_C 0).2.2.1 ∈ TB := tb_1 38 rfl rfl
theorem lk_C_15 : Cond.fieldLink R_C 15 R_C (F_C 1).2.1 (F_C 1).2.2.1 ∈ TB := tb_1 41 rfl rfl
theorem lk_C_18 : Cond.fieldLink R_C 18 R_C (F_C 2).2.1 (F_C 2).2.2.1 ∈ TB := tb_1 44 rfl rfl
theorem lk_C_21 : Cond.fieldLink R_C 21 R_C (F_C 3).2.1 (F_C 3).2.2.1 ∈ TB := tb_1 46 rfl rfl
theorem lk_C_24 : Cond.fieldLink R_C 24 R_C (F_C 4).2.1 (F_C 4).2.2.1 ∈ TB := tb_1 48 rfl rfl
theorem lk_C_27 : Cond.fieldLink R_C 27 R_C (F_C 5).2.1 (F_C 5).2.2.1 ∈ TB := tb_1 50 rfl rfl
theorem lk_C_30 : Cond.fieldLink R_C 30 R_C (F_C 6).2.1 (F_C 6).2.2.1 ∈ TB := tb_1 52 rfl rfl
theorem lk_C_33 : Cond.fieldLink R_C 33 R_C (F_C 7).2.1 (F_C 7).2.2.1 ∈ TB := tb_1 54 rfl rfl
theorem lk_C_36 : Cond.fieldLink R_C 36 R_C (F_C 8).2.1 (F_C 8).2.2.1 ∈ TB := tb_1 56 rfl rfl
theorem lk_C_40 : Cond.fieldLink R_C 40 R_C (F_C 9).2.1 (F_C 9).2.2.1 ∈ TB := tb_1 59 rfl rfl
theorem lk_C_43 : Cond.fieldLink R_C 43 R_C (F_C 10).2.1 (F_C 10).2.2.1 ∈ TB := tb_1 61 rfl rfl
theorem lk_C_46 : Cond.fieldLink R_C 46 R_C (F_C 11).2.1 (F_C 11).2.2.1 ∈ TB := tb_1 63 rfl rfl
theorem lk_C_49 : (R_C, 49, "LAWS_AT_FIRST") ∈ nwF := by simp [nwF, nwM]
theorem lk_C_52 : Cond.methodLink R_C 52 arraycopyName ∈ TB := tb_1 32 rfl rfl
theorem lk_C_58 : Cond.methodLink R_C 58 y_JA_fill ∈ TB := tb_1 35 rfl rfl
theorem lk_C_64 : Cond.methodLink R_C 64 y_C_landedSet ∈ TB := tb_2 220 rfl rfl
theorem lk_C_68 : (R_C, 68, y_X_isLock) ∈ nwM := by simp [nwF, nwM]
theorem lk_C_72 : Cond.methodLink R_C 72 y_C_allLanded ∈ TB := tb_2 216 rfl rfl
theorem lk_C_76 : Cond.methodLink R_C 76 y_C_passHour ∈ TB := tb_2 225 rfl rfl
theorem lk_C_79 : Cond.methodLink R_C 79 y_C_hasLanded ∈ TB := tb_2 224 rfl rfl
theorem lk_C_82 : Cond.methodLink R_C 82 y_C_goOn ∈ TB := tb_2 229 rfl rfl
theorem lk_C_86 : Cond.methodLink R_C 86 y_C_echoWithOthers ∈ TB := tb_3 6 rfl rfl
theorem lk_C_89 : Cond.methodLink R_C 89 y_C_paceOf ∈ TB := tb_2 233 rfl rfl
theorem lk_C_93 : Cond.methodLink R_C 93 y_C_noiseAt ∈ TB := tb_2 234 rfl rfl
theorem lk_C_96 : Cond.methodLink R_C 96 y_C_spillOf ∈ TB := tb_2 235 rfl rfl
theorem lk_C_100 : Cond.methodLink R_C 100 y_C_spill ∈ TB := tb_2 236 rfl rfl
theorem lk_C_104 : (R_C, 104, y_X_heldLoad) ∈ nwM := by simp [nwF, nwM]
theorem lk_C_107 : Cond.methodLink R_C 107 Lib.Math.min.name ∈ TB := tb_3 3 rfl rfl
theorem lk_C_112 : Cond.methodLink R_C 112 y_C_draw ∈ TB := tb_3 26 rfl rfl
theorem lk_C_115 : Cond.constant R_C 115 1103515245 ∈ TB := tb_3 30 rfl rfl
theorem lk_C_116 : Cond.methodLink R_C 116 Lib.Math.max.name ∈ TB := tb_3 106 rfl rfl
theorem lk_H_3 : Cond.methodLink R_H 3 objectInit ∈ TB := tb_1 168 rfl rfl
theorem lk_H_9 : Cond.fieldLink R_H 9 R_H (F_H 0).2.1 (F_H 0).2.2.1 ∈ TB := tb_1 169 rfl rfl
theorem lk_H_15 : Cond.fieldLink R_H 15 R_H (F_H 1).2.1 (F_H 1).2.2.1 ∈ TB := tb_1 171 rfl rfl
theorem lk_H_18 : Cond.fieldLink R_H 18 R_H (F_H 2).2.1 (F_H 2).2.2.1 ∈ TB := tb_1 173 rfl rfl
theorem lk_H_21 : Cond.fieldLink R_H 21 R_H (F_H 3).2.1 (F_H 3).2.2.1 ∈ TB := tb_1 175 rfl rfl
theorem lk_JI_265 : Cond.constant R_JI 265 1431655765 ∈ TB := tb_3 112 rfl rfl
theorem lk_JI_266 : Cond.constant R_JI 266 858993459 ∈ TB := tb_3 113 rfl rfl
theorem lk_JI_267 : Cond.constant R_JI 267 252645135 ∈ TB := tb_3 114 rfl rfl
theorem lk_JL_9 : Cond.methodLink R_JL 9 y_JS_checkIndex ∈ TB := tb_2 53 rfl rfl
theorem lk_JS_9 : Cond.fieldLink R_JS 9 R_JS "value" "[B" ∈ TB := tb_6 42 rfl rfl
theorem lk_JS_15 : Cond.fieldLink R_JS 15 R_JS "coder" "B" ∈ TB := tb_6 43 rfl rfl
theorem lk_JS_38 : Cond.fieldLink R_JS 38 R_JS "COMPACT_STRINGS" "Z" ∈ TB := tb_2 40 rfl rfl
theorem lk_JS_335 : Cond.methodLink R_JS 335 y_JS_coder ∈ TB := tb_2 36 rfl rfl
theorem lk_JS_492 : Cond.methodLink R_JS 492 y_JS_isLatin1 ∈ TB := tb_2 46 rfl rfl
theorem lk_JS_495 : Cond.methodLink R_JS 495 y_JL_charAt ∈ TB := tb_2 50 rfl rfl
theorem lk_JS_498 : Cond.methodLink R_JS 498 y_JU_charAt ∈ TB := tb_2 61 rfl rfl
theorem lk_JS_1053 : Cond.fieldLink R_JS 1053 R_JP "SIOOBE_FORMATTER" "Ljava/util/function/BiFunction;" ∈ TB := tb_2 56 rfl rfl
theorem lk_JS_1059 : Cond.methodLink R_JS 1059 y_JP_checkIndex ∈ TB := tb_2 58 rfl rfl
theorem lk_L_7 : Cond.classLink "SilenceCanalLaw" 7 "SilenceCanal" ∈ TB := tb_1 16 rfl rfl
theorem lk_L_9 : Cond.methodLink "SilenceCanalLaw" 9 y_X_init ∈ TB := tb_1 18 rfl rfl
theorem lk_L_10 : Cond.classLink "SilenceCanalLaw" 10 "SilenceCanalModel" ∈ TB := tb_4 36 rfl rfl
theorem lk_L_12 : Cond.methodLink "SilenceCanalLaw" 12 y_M_init ∈ TB := tb_4 38 rfl rfl
theorem lk_L_13 : Cond.constantLong "SilenceCanalLaw" 13 4294967295 ∈ TB := tb_6 41 rfl rfl
theorem lk_L_15 : Cond.methodLink "SilenceCanalLaw" 15 y_X_feed ∈ TB := tb_1 217 rfl rfl
theorem lk_L_19 : Cond.methodLink "SilenceCanalLaw" 19 y_M_feed ∈ TB := tb_5 135 rfl rfl
theorem lk_L_20 : Cond.methodLink "SilenceCanalLaw" 20 y_X_canal ∈ TB := tb_1 225 rfl rfl
theorem lk_L_24 : Cond.methodLink "SilenceCanalLaw" 24 y_M_canal ∈ TB := tb_5 140 rfl rfl
theorem lk_L_25 : Cond.methodLink "SilenceCanalLaw" 25 y_X_set ∈ TB := tb_2 129 rfl rfl
theorem lk_L_29 : Cond.methodLink "SilenceCanalLaw" 29 y_M_set ∈ TB := tb_4 124 rfl rfl
theorem lk_L_30 : Cond.methodLink "SilenceCanalLaw" 30 y_X_lawOf ∈ TB := tb_2 135 rfl rfl
theorem lk_L_34 : Cond.methodLink "SilenceCanalLaw" 34 y_M_lawOf ∈ TB := tb_4 141 rfl rfl
theorem lk_L_35 : Cond.methodLink "SilenceCanalLaw" 35 y_X_barge ∈ TB := tb_2 139 rfl rfl
theorem lk_L_39 : Cond.methodLink "SilenceCanalLaw" 39 y_M_barge ∈ TB := tb_4 145 rfl rfl
theorem lk_L_40 : Cond.methodLink "SilenceCanalLaw" 40 y_X_of ∈ TB := tb_2 151 rfl rfl
theorem lk_L_43 : Cond.methodLink "SilenceCanalLaw" 43 y_M_of ∈ TB := tb_4 161 rfl rfl
theorem lk_L_44 : Cond.methodLink "SilenceCanalLaw" 44 y_X_does ∈ TB := tb_2 163 rfl rfl
theorem lk_L_47 : Cond.methodLink "SilenceCanalLaw" 47 y_M_does ∈ TB := tb_4 177 rfl rfl
theorem lk_L_48 : Cond.methodLink "SilenceCanalLaw" 48 y_X_mind ∈ TB := tb_2 180 rfl rfl
theorem lk_L_52 : Cond.methodLink "SilenceCanalLaw" 52 y_M_mind ∈ TB := tb_4 189 rfl rfl
theorem lk_L_53 : Cond.methodLink "SilenceCanalLaw" 53 y_X_fill ∈ TB := tb_2 184 rfl rfl
theorem lk_L_56 : Cond.methodLink "SilenceCanalLaw" 56 y_M_fill ∈ TB := tb_4 193 rfl rfl
theorem lk_L_57 : Cond.methodLink "SilenceCanalLaw" 57 y_X_bring ∈ TB := tb_2 188 rfl rfl
theorem lk_L_60 : Cond.methodLink "SilenceCanalLaw" 60 y_M_bring ∈ TB := tb_4 197 rfl rfl
theorem lk_L_61 : Cond.methodLink "SilenceCanalLaw" 61 y_X_send ∈ TB := tb_2 192 rfl rfl
theorem lk_L_64 : Cond.methodLink "SilenceCanalLaw" 64 y_M_send ∈ TB := tb_4 201 rfl rfl
theorem lk_L_65 : Cond.methodLink "SilenceCanalLaw" 65 y_X_noise ∈ TB := tb_2 196 rfl rfl
theorem lk_L_68 : Cond.methodLink "SilenceCanalLaw" 68 y_M_noise ∈ TB := tb_4 205 rfl rfl
theorem lk_L_69 : Cond.methodLink "SilenceCanalLaw" 69 y_X_lock ∈ TB := tb_2 200 rfl rfl
theorem lk_L_72 : Cond.methodLink "SilenceCanalLaw" 72 y_M_lock ∈ TB := tb_4 209 rfl rfl
theorem lk_L_73 : Cond.methodLink "SilenceCanalLaw" 73 y_X_hours ∈ TB := tb_2 208 rfl rfl
theorem lk_L_76 : Cond.methodLink "SilenceCanalLaw" 76 y_M_hours ∈ TB := tb_4 214 rfl rfl
theorem lk_L_77 : Cond.methodLink "SilenceCanalLaw" 77 y_X_seed ∈ TB := tb_3 14 rfl rfl
theorem lk_L_80 : Cond.methodLink "SilenceCanalLaw" 80 y_M_seed ∈ TB := tb_5 2 rfl rfl
theorem lk_L_81 : Cond.methodLink "SilenceCanalLaw" 81 y_X_hour ∈ TB := tb_3 18 rfl rfl
theorem lk_L_84 : Cond.methodLink "SilenceCanalLaw" 84 y_M_hour ∈ TB := tb_5 6 rfl rfl
theorem lk_L_85 : Cond.methodLink "SilenceCanalLaw" 85 y_X_spoilt ∈ TB := tb_3 31 rfl rfl
theorem lk_L_88 : Cond.methodLink "SilenceCanalLaw" 88 y_M_spoilt ∈ TB := tb_5 15 rfl rfl
theorem lk_L_89 : Cond.methodLink "SilenceCanalLaw" 89 y_X_state ∈ TB := tb_3 43 rfl rfl
theorem lk_L_92 : Cond.methodLink "SilenceCanalLaw" 92 y_M_state ∈ TB := tb_5 33 rfl rfl
theorem lk_L_93 : Cond.methodLink "SilenceCanalLaw" 93 y_X_freight ∈ TB := tb_3 60 rfl rfl
theorem lk_L_96 : Cond.methodLink "SilenceCanalLaw" 96 y_M_freight ∈ TB := tb_5 53 rfl rfl
theorem lk_L_97 : Cond.methodLink "SilenceCanalLaw" 97 y_X_lands ∈ TB := tb_3 68 rfl rfl
theorem lk_L_100 : Cond.methodLink "SilenceCanalLaw" 100 y_M_lands ∈ TB := tb_5 64 rfl rfl
theorem lk_L_101 : Cond.methodLink "SilenceCanalLaw" 101 y_X_meets ∈ TB := tb_3 73 rfl rfl
theorem lk_L_104 : Cond.methodLink "SilenceCanalLaw" 104 y_M_meets ∈ TB := tb_5 68 rfl rfl
theorem lk_L_105 : Cond.methodLink "SilenceCanalLaw" 105 y_X_quiet ∈ TB := tb_3 77 rfl rfl
theorem lk_L_108 : Cond.methodLink "SilenceCanalLaw" 108 y_M_quiet ∈ TB := tb_5 72 rfl rfl
theorem lk_L_109 : Cond.methodLink "SilenceCanalLaw" 109 y_X_cargo ∈ TB := tb_3 82 rfl rfl
theorem lk_L_112 : Cond.methodLink "SilenceCanalLaw" 112 y_M_cargo ∈ TB := tb_5 76 rfl rfl
theorem lk_L_113 : Cond.methodLink "SilenceCanalLaw" 113 y_X_stillFor ∈ TB := tb_3 86 rfl rfl
theorem lk_L_116 : Cond.methodLink "SilenceCanalLaw" 116 y_M_stillFor ∈ TB := tb_5 80 rfl rfl
theorem lk_L_117 : Cond.methodLink "SilenceCanalLaw" 117 y_X_kindFor ∈ TB := tb_3 90 rfl rfl
theorem lk_L_120 : Cond.methodLink "SilenceCanalLaw" 120 y_M_kindFor ∈ TB := tb_5 87 rfl rfl
theorem lk_L_121 : Cond.methodLink "SilenceCanalLaw" 121 y_X_loadFor ∈ TB := tb_3 94 rfl rfl
theorem lk_L_124 : Cond.methodLink "SilenceCanalLaw" 124 y_M_loadFor ∈ TB := tb_5 91 rfl rfl
theorem lk_L_125 : Cond.methodLink "SilenceCanalLaw" 125 y_X_hushedFor ∈ TB := tb_3 98 rfl rfl
theorem lk_L_128 : Cond.methodLink "SilenceCanalLaw" 128 y_M_hushedFor ∈ TB := tb_5 95 rfl rfl
theorem lk_L_129 : Cond.methodLink "SilenceCanalLaw" 129 y_X_holdFor ∈ TB := tb_3 115 rfl rfl
theorem lk_L_132 : Cond.methodLink "SilenceCanalLaw" 132 y_M_holdFor ∈ TB := tb_5 104 rfl rfl
theorem lk_L_133 : Cond.methodLink "SilenceCanalLaw" 133 y_X_fits ∈ TB := tb_3 119 rfl rfl
theorem lk_L_136 : Cond.methodLink "SilenceCanalLaw" 136 y_M_fits ∈ TB := tb_5 108 rfl rfl
theorem lk_L_137 : Cond.methodLink "SilenceCanalLaw" 137 y_X_odds ∈ TB := tb_3 131 rfl rfl
theorem lk_L_141 : Cond.methodLink "SilenceCanalLaw" 141 y_M_odds ∈ TB := tb_5 116 rfl rfl
theorem lk_L_142 : Cond.methodLink "SilenceCanalLaw" 142 y_X_hope ∈ TB := tb_3 143 rfl rfl
theorem lk_L_146 : Cond.methodLink "SilenceCanalLaw" 146 y_M_hope ∈ TB := tb_5 131 rfl rfl
theorem lk_L_147 : Cond.methodLink "SilenceCanalLaw" 147 y_X_prove ∈ TB := tb_3 147 rfl rfl
theorem lk_L_150 : Cond.methodLink "SilenceCanalLaw" 150 y_M_prove ∈ TB := tb_5 184 rfl rfl
theorem lk_L_151 : Cond.methodLink "SilenceCanalLaw" 151 y_X_row ∈ TB := tb_3 155 rfl rfl
theorem lk_L_154 : Cond.methodLink "SilenceCanalLaw" 154 y_M_row ∈ TB := tb_5 193 rfl rfl
theorem lk_L_155 : Cond.methodLink "SilenceCanalLaw" 155 y_X_alterRow ∈ TB := tb_3 163 rfl rfl
theorem lk_L_158 : Cond.methodLink "SilenceCanalLaw" 158 y_M_alterRow ∈ TB := tb_5 197 rfl rfl
theorem lk_L_159 : Cond.methodLink "SilenceCanalLaw" 159 y_X_judge ∈ TB := tb_3 167 rfl rfl
theorem lk_L_162 : Cond.methodLink "SilenceCanalLaw" 162 y_M_judge ∈ TB := tb_5 201 rfl rfl
theorem lk_L_163 : Cond.methodLink "SilenceCanalLaw" 163 y_X_minds ∈ TB := tb_3 171 rfl rfl
theorem lk_L_166 : Cond.methodLink "SilenceCanalLaw" 166 y_M_minds ∈ TB := tb_5 205 rfl rfl
theorem lk_L_167 : Cond.methodLink "SilenceCanalLaw" 167 y_X_sheet ∈ TB := tb_3 176 rfl rfl
theorem lk_L_170 : Cond.methodLink "SilenceCanalLaw" 170 y_M_sheet ∈ TB := tb_5 209 rfl rfl
theorem lk_L_171 : Cond.methodLink "SilenceCanalLaw" 171 y_X_put ∈ TB := tb_3 185 rfl rfl
theorem lk_L_174 : Cond.methodLink "SilenceCanalLaw" 174 y_M_put ∈ TB := tb_5 213 rfl rfl
theorem lk_L_175 : Cond.methodLink "SilenceCanalLaw" 175 y_X_item ∈ TB := tb_3 197 rfl rfl
theorem lk_L_178 : Cond.methodLink "SilenceCanalLaw" 178 y_M_item ∈ TB := tb_5 217 rfl rfl
theorem lk_L_179 : Cond.methodLink "SilenceCanalLaw" 179 y_X_shelf ∈ TB := tb_3 201 rfl rfl
theorem lk_L_182 : Cond.methodLink "SilenceCanalLaw" 182 y_M_shelf ∈ TB := tb_5 221 rfl rfl
theorem lk_L_183 : Cond.methodLink "SilenceCanalLaw" 183 y_X_taken ∈ TB := tb_3 221 rfl rfl
theorem lk_L_186 : Cond.methodLink "SilenceCanalLaw" 186 y_M_taken ∈ TB := tb_5 225 rfl rfl
theorem lk_L_187 : Cond.methodLink "SilenceCanalLaw" 187 y_X_act ∈ TB := tb_3 234 rfl rfl
theorem lk_L_190 : Cond.methodLink "SilenceCanalLaw" 190 y_M_act ∈ TB := tb_5 237 rfl rfl
theorem lk_L_191 : Cond.methodLink "SilenceCanalLaw" 191 y_X_trace ∈ TB := tb_4 16 rfl rfl
theorem lk_L_194 : Cond.methodLink "SilenceCanalLaw" 194 y_M_trace ∈ TB := tb_6 21 rfl rfl
theorem lk_L_195 : Cond.methodLink "SilenceCanalLaw" 195 y_X_many ∈ TB := tb_4 20 rfl rfl
theorem lk_L_198 : Cond.methodLink "SilenceCanalLaw" 198 y_M_many ∈ TB := tb_6 25 rfl rfl
theorem lk_L_199 : Cond.methodLink "SilenceCanalLaw" 199 y_X_keep ∈ TB := tb_4 28 rfl rfl
theorem lk_L_202 : Cond.methodLink "SilenceCanalLaw" 202 y_M_keep ∈ TB := tb_6 33 rfl rfl
theorem lk_L_203 : Cond.methodLink "SilenceCanalLaw" 203 y_X_again ∈ TB := tb_4 32 rfl rfl
theorem lk_L_206 : Cond.methodLink "SilenceCanalLaw" 206 y_M_again ∈ TB := tb_6 37 rfl rfl
theorem lk_M_1 : Cond.methodLink R_M 1 objectInit ∈ TB := tb_4 41 rfl rfl
theorem lk_M_7 : Cond.fieldLink R_M 7 R_M (F_M 0).2.1 (F_M 0).2.2.1 ∈ TB := tb_4 46 rfl rfl
theorem lk_M_13 : Cond.fieldLink R_M 13 R_M (F_M 1).2.1 (F_M 1).2.2.1 ∈ TB := tb_4 47 rfl rfl
theorem lk_M_16 : Cond.fieldLink R_M 16 R_M (F_M 2).2.1 (F_M 2).2.2.1 ∈ TB := tb_4 48 rfl rfl
theorem lk_M_19 : Cond.fieldLink R_M 19 R_M (F_M 4).2.1 (F_M 4).2.2.1 ∈ TB := tb_4 50 rfl rfl
theorem lk_M_23 : Cond.fieldLink R_M 23 R_M (F_M 5).2.1 (F_M 5).2.2.1 ∈ TB := tb_4 51 rfl rfl
theorem lk_M_26 : Cond.fieldLink R_M 26 R_M (F_M 11).2.1 (F_M 11).2.2.1 ∈ TB := tb_4 57 rfl rfl
theorem lk_M_30 : Cond.fieldLink R_M 30 R_M (F_M 13).2.1 (F_M 13).2.2.1 ∈ TB := tb_4 59 rfl rfl
theorem lk_M_33 : Cond.fieldLink R_M 33 R_M (F_M 15).2.1 (F_M 15).2.2.1 ∈ TB := tb_4 61 rfl rfl
theorem lk_M_36 : Cond.fieldLink R_M 36 R_M (F_M 16).2.1 (F_M 16).2.2.1 ∈ TB := tb_4 62 rfl rfl
theorem lk_M_39 : Cond.fieldLink R_M 39 R_M (F_M 17).2.1 (F_M 17).2.2.1 ∈ TB := tb_4 63 rfl rfl
theorem lk_M_43 : Cond.fieldLink R_M 43 R_M (F_M 18).2.1 (F_M 18).2.2.1 ∈ TB := tb_4 64 rfl rfl
theorem lk_M_46 : Cond.fieldLink R_M 46 R_M (F_M 19).2.1 (F_M 19).2.2.1 ∈ TB := tb_4 65 rfl rfl
theorem lk_M_49 : Cond.fieldLink R_M 49 R_M (F_M 20).2.1 (F_M 20).2.2.1 ∈ TB := tb_4 66 rfl rfl
theorem lk_M_52 : Cond.fieldLink R_M 52 R_M (F_M 21).2.1 (F_M 21).2.2.1 ∈ TB := tb_4 67 rfl rfl
theorem lk_M_55 : Cond.methodLink R_M 55 y_M_first ∈ TB := tb_4 42 rfl rfl
theorem lk_M_58 : Cond.methodLink R_M 58 y_M_in ∈ TB := tb_4 132 rfl rfl
theorem lk_M_62 : Cond.constantLong R_M 62 9 ∈ TB := tb_4 136 rfl rfl
theorem lk_M_64 : Cond.methodLink R_M 64 y_M_get ∈ TB := tb_4 173 rfl rfl
theorem lk_M_68 : Cond.methodLink R_M 68 y_M_held ∈ TB := tb_4 235 rfl rfl
theorem lk_M_72 : Cond.methodLink R_M 72 y_M_puts ∈ TB := tb_4 157 rfl rfl
theorem lk_M_76 : Cond.methodLink R_M 76 y_M_pace ∈ TB := tb_4 181 rfl rfl
theorem lk_M_80 : Cond.methodLink R_M 80 y_M_hasLanded ∈ TB := tb_4 169 rfl rfl
theorem lk_M_84 : Cond.methodLink R_M 84 y_M_spills ∈ TB := tb_4 185 rfl rfl
theorem lk_M_87 : Cond.methodLink R_M 87 y_M_spilt ∈ TB := tb_4 231 rfl rfl
theorem lk_M_91 : Cond.methodLink R_M 91 y_M_goes ∈ TB := tb_4 227 rfl rfl
theorem lk_M_95 : Cond.methodLink R_M 95 y_M_hourGoes ∈ TB := tb_4 223 rfl rfl
theorem lk_M_98 : Cond.constantLong R_M 98 3 ∈ TB := tb_4 131 rfl rfl
theorem lk_M_100 : Cond.constantLong R_M 100 99 ∈ TB := tb_4 135 rfl rfl
theorem lk_M_102 : Cond.methodLink R_M 102 y_M_isLaw ∈ TB := tb_4 128 rfl rfl
theorem lk_M_106 : Cond.methodLink R_M 106 y_M_becomes ∈ TB := tb_4 137 rfl rfl
theorem lk_M_109 : Cond.constantLong R_M 109 5 ∈ TB := tb_4 149 rfl rfl
theorem lk_M_111 : Cond.methodLink R_M 111 y_M_isLock ∈ TB := tb_4 150 rfl rfl
theorem lk_M_114 : Cond.methodLink R_M 114 y_M_comes ∈ TB := tb_4 153 rfl rfl
theorem lk_M_118 : Cond.methodLink R_M 118 y_M_isBarge ∈ TB := tb_4 165 rfl rfl
theorem lk_M_121 : Cond.constantLong R_M 121 2 ∈ TB := tb_4 213 rfl rfl
theorem lk_M_123 : Cond.constantLong R_M 123 60 ∈ TB := tb_4 218 rfl rfl
theorem lk_M_125 : Cond.methodLink R_M 125 y_M_hoursGo ∈ TB := tb_4 219 rfl rfl
theorem lk_M_128 : Cond.methodLink R_M 128 y_M_loads ∈ TB := tb_4 238 rfl rfl
theorem lk_M_132 : Cond.constant R_M 132 1103515245 ∈ TB := tb_5 14 rfl rfl
theorem lk_M_133 : Cond.methodLink R_M 133 y_M_drawn ∈ TB := tb_5 10 rfl rfl
theorem lk_M_136 : Cond.constantLong R_M 136 30 ∈ TB := tb_5 19 rfl rfl
theorem lk_M_138 : Cond.methodLink R_M 138 y_M_keepAside ∈ TB := tb_5 20 rfl rfl
theorem lk_M_141 : Cond.methodLink R_M 141 y_M_cargoBehind ∈ TB := tb_5 24 rfl rfl
theorem lk_M_144 : Cond.methodLink R_M 144 y_M_hour ∈ TB := tb_5 32 rfl rfl
theorem lk_M_147 : Cond.methodLink R_M 147 y_M_putBack ∈ TB := tb_5 28 rfl rfl
theorem lk_M_150 : Cond.methodLink R_M 150 y_M_lostAll ∈ TB := tb_5 37 rfl rfl
theorem lk_M_153 : Cond.methodLink R_M 153 y_M_landed ∈ TB := tb_5 41 rfl rfl
theorem lk_M_156 : Cond.methodLink R_M 156 y_M_places ∈ TB := tb_5 45 rfl rfl
theorem lk_M_159 : Cond.methodLink R_M 159 y_M_loudest ∈ TB := tb_5 49 rfl rfl
theorem lk_M_162 : Cond.methodLink R_M 162 y_M_loadOf ∈ TB := tb_5 57 rfl rfl
theorem lk_M_165 : Cond.methodLink R_M 165 y_M_behind ∈ TB := tb_5 60 rfl rfl
theorem lk_M_168 : Cond.methodLink R_M 168 y_M_isShort ∈ TB := tb_5 84 rfl rfl
theorem lk_M_171 : Cond.constantLong R_M 171 20 ∈ TB := tb_5 99 rfl rfl
theorem lk_M_173 : Cond.constantLong R_M 173 999 ∈ TB := tb_5 100 rfl rfl
theorem lk_M_175 : Cond.methodLink R_M 175 y_M_bits ∈ TB := tb_5 101 rfl rfl
theorem lk_M_178 : Cond.methodLink R_M 178 y_M_isSheet ∈ TB := tb_5 112 rfl rfl
theorem lk_M_181 : Cond.constantLong R_M 181 (-1) ∈ TB := tb_5 115 rfl rfl
theorem lk_M_183 : Cond.methodLink R_M 183 y_M_common ∈ TB := tb_5 128 rfl rfl
theorem lk_M_187 : Cond.constantLong R_M 187 8 ∈ TB := tb_5 120 rfl rfl
theorem lk_M_189 : Cond.constantLong R_M 189 100 ∈ TB := tb_5 121 rfl rfl
theorem lk_M_191 : Cond.methodLink R_M 191 y_M_ways ∈ TB := tb_5 122 rfl rfl
theorem lk_M_195 : Cond.methodLink R_M 195 y_M_partOf ∈ TB := tb_5 125 rfl rfl
theorem lk_M_199 : Cond.fieldLink R_M 199 R_M (F_M 6).2.1 (F_M 6).2.2.1 ∈ TB := tb_4 52 rfl rfl
theorem lk_M_202 : Cond.constantLong R_M 202 255 ∈ TB := tb_5 139 rfl rfl
theorem lk_M_204 : Cond.fieldLink R_M 204 R_M (F_M 7).2.1 (F_M 7).2.2.1 ∈ TB := tb_4 53 rfl rfl
theorem lk_M_207 : Cond.fieldLink R_M 207 R_M (F_M 8).2.1 (F_M 8).2.2.1 ∈ TB := tb_4 54 rfl rfl
theorem lk_M_210 : Cond.fieldLink R_M 210 R_M (F_M 10).2.1 (F_M 10).2.2.1 ∈ TB := tb_4 56 rfl rfl
theorem lk_M_213 : Cond.fieldLink R_M 213 R_M (F_M 9).2.1 (F_M 9).2.2.1 ∈ TB := tb_4 55 rfl rfl
theorem lk_M_216 : Cond.methodLink R_M 216 y_M_isRow ∈ TB := tb_5 152 rfl rfl
theorem lk_M_220 : Cond.methodLink R_M 220 y_M_wordThere ∈ TB := tb_5 156 rfl rfl
theorem lk_M_223 : Cond.methodLink R_M 223 y_M_next ∈ TB := tb_5 148 rfl rfl
theorem lk_M_226 : Cond.fieldLink R_M 226 R_M (F_M 12).2.1 (F_M 12).2.2.1 ∈ TB := tb_4 58 rfl rfl
theorem lk_M_229 : Cond.methodLink R_M 229 y_M_isWord ∈ TB := tb_5 168 rfl rfl
theorem lk_M_232 : Cond.methodLink R_M 232 y_M_readsWord ∈ TB := tb_5 164 rfl rfl
theorem lk_M_235 : Cond.methodLink R_M 235 y_M_reads ∈ TB := tb_5 172 rfl rfl
theorem lk_M_238 : Cond.methodLink R_M 238 y_M_readsBarge ∈ TB := tb_5 160 rfl rfl
theorem lk_M_242 : Cond.methodLink R_M 242 y_M_readsNoise ∈ TB := tb_5 176 rfl rfl
theorem lk_M_246 : Cond.methodLink R_M 246 y_M_readsLaw ∈ TB := tb_5 180 rfl rfl
theorem lk_M_250 : Cond.methodLink R_M 250 y_M_readsAll ∈ TB := tb_5 144 rfl rfl
theorem lk_M_253 : Cond.fieldLink R_M 253 R_M (F_M 14).2.1 (F_M 14).2.2.1 ∈ TB := tb_4 60 rfl rfl
theorem lk_M_256 : Cond.constantLong R_M 256 10 ∈ TB := tb_5 188 rfl rfl
theorem lk_M_258 : Cond.methodLink R_M 258 y_M_mustBe ∈ TB := tb_5 189 rfl rfl
theorem lk_M_261 : Cond.constantLong R_M 261 13 ∈ TB := tb_5 229 rfl rfl
theorem lk_M_263 : Cond.methodLink R_M 263 y_M_holdsNothing ∈ TB := tb_5 230 rfl rfl
theorem lk_M_266 : Cond.methodLink R_M 266 y_M_above ∈ TB := tb_5 234 rfl rfl
theorem lk_M_269 : Cond.fieldLink R_M 269 R_M (F_M 22).2.1 (F_M 22).2.2.1 ∈ TB := tb_4 68 rfl rfl
theorem lk_M_272 : Cond.fieldLink R_M 272 R_M (F_M 24).2.1 (F_M 24).2.2.1 ∈ TB := tb_4 70 rfl rfl
theorem lk_M_276 : Cond.methodLink R_M 276 y_M_ran ∈ TB := tb_6 5 rfl rfl
theorem lk_M_279 : Cond.fieldLink R_M 279 R_M (F_M 23).2.1 (F_M 23).2.2.1 ∈ TB := tb_4 69 rfl rfl
theorem lk_M_282 : Cond.methodLink R_M 282 y_M_floatsBy ∈ TB := tb_6 1 rfl rfl
theorem lk_M_285 : Cond.methodLink R_M 285 y_M_slopsBy ∈ TB := tb_6 9 rfl rfl
theorem lk_M_288 : Cond.methodLink R_M 288 y_M_partsBy ∈ TB := tb_6 13 rfl rfl
theorem lk_M_291 : Cond.methodLink R_M 291 y_M_landsBy ∈ TB := tb_6 17 rfl rfl
theorem lk_M_294 : Cond.methodLink R_M 294 y_M_spoiltLocks ∈ TB := tb_6 29 rfl rfl
theorem lk_M_297 : Cond.fieldLink R_M 297 R_M (F_M 3).2.1 (F_M 3).2.2.1 ∈ TB := tb_4 49 rfl rfl
theorem lk_S_3 : Cond.methodLink R_S 3 objectInit ∈ TB := tb_1 150 rfl rfl
theorem lk_S_9 : Cond.fieldLink R_S 9 R_S (F_S 0).2.1 (F_S 0).2.2.1 ∈ TB := tb_1 151 rfl rfl
theorem lk_S_15 : Cond.fieldLink R_S 15 R_S (F_S 1).2.1 (F_S 1).2.2.1 ∈ TB := tb_1 153 rfl rfl
theorem lk_S_19 : Cond.fieldLink R_S 19 R_S (F_S 2).2.1 (F_S 2).2.2.1 ∈ TB := tb_1 155 rfl rfl
theorem lk_S_22 : Cond.methodLink R_S 22 y_JA_fill ∈ TB := tb_3 184 rfl rfl
theorem lk_T_3 : Cond.methodLink R_T 3 objectInit ∈ TB := tb_1 96 rfl rfl
theorem lk_T_9 : Cond.fieldLink R_T 9 R_T (F_T 0).2.1 (F_T 0).2.2.1 ∈ TB := tb_1 97 rfl rfl
theorem lk_T_15 : Cond.fieldLink R_T 15 R_T (F_T 1).2.1 (F_T 1).2.2.1 ∈ TB := tb_1 98 rfl rfl
theorem lk_T_19 : Cond.fieldLink R_T 19 R_T (F_T 2).2.1 (F_T 2).2.2.1 ∈ TB := tb_1 100 rfl rfl
theorem lk_T_22 : Cond.fieldLink R_T 22 R_T (F_T 3).2.1 (F_T 3).2.2.1 ∈ TB := tb_1 101 rfl rfl
theorem lk_T_25 : Cond.fieldLink R_T 25 R_T (F_T 4).2.1 (F_T 4).2.2.1 ∈ TB := tb_1 102 rfl rfl
theorem lk_T_28 : Cond.methodLink R_T 28 y_T_step ∈ TB := tb_2 1 rfl rfl
theorem lk_T_31 : Cond.methodLink R_T 31 y_T_readLine ∈ TB := tb_2 15 rfl rfl
theorem lk_T_35 : Cond.methodLink R_T 35 y_T_kindName ∈ TB := tb_2 19 rfl rfl
theorem lk_T_39 : Cond.methodLink R_T 39 y_T_isName ∈ TB := tb_2 28 rfl rfl
theorem lk_T_43 : Cond.methodLink R_T 43 y_T_readBarge ∈ TB := tb_2 80 rfl rfl
theorem lk_T_47 : Cond.methodLink R_T 47 y_T_lawName ∈ TB := tb_2 104 rfl rfl
theorem lk_T_50 : Cond.methodLink R_T 50 y_T_takeName ∈ TB := tb_2 85 rfl rfl
theorem lk_T_53 : Cond.methodLink R_T 53 y_T_readLaw ∈ TB := tb_2 111 rfl rfl
theorem lk_T_58 : Cond.methodLink R_T 58 y_T_readNoise ∈ TB := tb_2 121 rfl rfl
theorem lk_T_61 : Cond.fieldLink R_T 61 R_C (F_C 8).2.1 (F_C 8).2.2.1 ∈ TB := tb_1 58 rfl rfl
theorem lk_T_68 : Cond.methodLink R_T 68 y_T_takeNumber ∈ TB := tb_2 89 rfl rfl
theorem lk_T_78 : Cond.methodLink R_T 78 y_T_takeEndOfLine ∈ TB := tb_2 96 rfl rfl
theorem lk_T_82 : Cond.methodLink R_T 82 y_C_add ∈ TB := tb_2 100 rfl rfl
theorem lk_T_86 : (R_T, 86, y_X_isLaw) ∈ nwM := by simp [nwF, nwM]
theorem lk_T_90 : (R_T, 90, "LAWS_AT_MOST") ∈ nwF := by simp [nwF, nwM]
theorem lk_T_94 : Cond.fieldLink R_T 94 R_C (F_C 0).2.1 (F_C 0).2.2.1 ∈ TB := tb_1 40 rfl rfl
theorem lk_T_99 : (R_T, 99, y_X_isLock) ∈ nwM := by simp [nwF, nwM]
theorem lk_T_102 : Cond.fieldLink R_T 102 R_C (F_C 1).2.1 (F_C 1).2.2.1 ∈ TB := tb_1 42 rfl rfl
theorem lk_T_124 : Cond.methodLink R_T 124 y_JS_length ∈ TB := tb_2 32 rfl rfl
theorem lk_T_130 : Cond.methodLink R_T 130 y_T_byteAt ∈ TB := tb_2 5 rfl rfl
theorem lk_T_133 : Cond.methodLink R_T 133 y_JS_charAt ∈ TB := tb_2 42 rfl rfl
theorem lk_T_137 : Cond.methodLink R_T 137 y_T_isLetter ∈ TB := tb_2 9 rfl rfl
theorem lk_T_140 : Cond.methodLink R_T 140 y_T_isDigit ∈ TB := tb_2 12 rfl rfl
theorem lk_X_1 : Cond.methodLink R_X 1 objectInit ∈ TB := tb_1 21 rfl rfl
theorem lk_X_7 : Cond.classLink R_X 7 "SilenceCanal$Canal" ∈ TB := tb_1 24 rfl rfl
theorem lk_X_9 : Cond.methodLink R_X 9 y_C_init ∈ TB := tb_1 26 rfl rfl
theorem lk_X_10 : Cond.fieldLink R_X 10 R_X (F_X 0).2.1 (F_X 0).2.2.1 ∈ TB := tb_1 186 rfl rfl
theorem lk_X_16 : Cond.fieldLink R_X 16 R_X (F_X 1).2.1 (F_X 1).2.2.1 ∈ TB := tb_1 187 rfl rfl
theorem lk_X_19 : Cond.fieldLink R_X 19 R_X (F_X 2).2.1 (F_X 2).2.2.1 ∈ TB := tb_1 188 rfl rfl
theorem lk_X_22 : Cond.fieldLink R_X 22 R_X (F_X 3).2.1 (F_X 3).2.2.1 ∈ TB := tb_1 189 rfl rfl
theorem lk_X_26 : Cond.classLink R_X 26 "SilenceCanal$Text" ∈ TB := tb_1 91 rfl rfl
theorem lk_X_28 : (R_X, 28, y_T_init) ∈ nwM := by simp [nwF, nwM]
theorem lk_X_29 : Cond.fieldLink R_X 29 R_X (F_X 4).2.1 (F_X 4).2.2.1 ∈ TB := tb_1 190 rfl rfl
theorem lk_X_33 : Cond.fieldLink R_X 33 R_X (F_X 5).2.1 (F_X 5).2.2.1 ∈ TB := tb_1 191 rfl rfl
theorem lk_X_37 : Cond.fieldLink R_X 37 R_X (F_X 6).2.1 (F_X 6).2.2.1 ∈ TB := tb_1 192 rfl rfl
theorem lk_X_41 : Cond.classLink R_X 41 "SilenceCanal$Sheet" ∈ TB := tb_1 115 rfl rfl
theorem lk_X_43 : Cond.fieldLink R_X 43 R_X (F_X 7).2.1 (F_X 7).2.2.1 ∈ TB := tb_1 193 rfl rfl
theorem lk_X_47 : Cond.classLink R_X 47 "SilenceCanal$Shelf" ∈ TB := tb_1 117 rfl rfl
theorem lk_X_49 : Cond.fieldLink R_X 49 R_X (F_X 8).2.1 (F_X 8).2.2.1 ∈ TB := tb_1 194 rfl rfl
theorem lk_X_53 : Cond.classLink R_X 53 "SilenceCanal$Acts" ∈ TB := tb_1 119 rfl rfl
theorem lk_X_55 : (R_X, 55, y_A_init) ∈ nwM := by simp [nwF, nwM]
theorem lk_X_56 : Cond.fieldLink R_X 56 R_X (F_X 9).2.1 (F_X 9).2.2.1 ∈ TB := tb_1 195 rfl rfl
theorem lk_X_60 : (R_X, 60, y_S_init) ∈ nwM := by simp [nwF, nwM]
theorem lk_X_61 : (R_X, 61, y_H_init) ∈ nwM := by simp [nwF, nwM]
theorem lk_X_62 : Cond.fieldLink R_X 62 R_T (F_T 1).2.1 (F_T 1).2.2.1 ∈ TB := tb_1 99 rfl rfl
theorem lk_X_65 : Cond.methodLink R_X 65 y_T_append ∈ TB := tb_1 221 rfl rfl
theorem lk_X_69 : Cond.methodLink R_X 69 y_C_copyFrom ∈ TB := tb_1 229 rfl rfl
theorem lk_X_73 : Cond.methodLink R_X 73 y_C_clearAllButDraws ∈ TB := tb_1 233 rfl rfl
theorem lk_X_76 : Cond.methodLink R_X 76 y_T_readInto ∈ TB := tb_1 237 rfl rfl
theorem lk_X_80 : Cond.fieldLink R_X 80 R_C (F_C 8).2.1 (F_C 8).2.2.1 ∈ TB := tb_1 57 rfl rfl
theorem lk_X_83 : Cond.methodLink R_X 83 y_X_isLaw ∈ TB := tb_2 133 rfl rfl
theorem lk_X_87 : Cond.fieldLink R_X 87 R_X "LAWS_AT_MOST" "[I" ∈ TB := tb_2 134 rfl rfl
theorem lk_X_90 : Cond.fieldLink R_X 90 R_C (F_C 0).2.1 (F_C 0).2.2.1 ∈ TB := tb_1 39 rfl rfl
theorem lk_X_93 : Cond.methodLink R_X 93 y_X_isKind ∈ TB := tb_2 143 rfl rfl
theorem lk_X_96 : Cond.methodLink R_X 96 y_X_isLoad ∈ TB := tb_2 146 rfl rfl
theorem lk_X_99 : Cond.methodLink R_X 99 y_X_isLock ∈ TB := tb_2 149 rfl rfl
theorem lk_X_102 : Cond.methodLink R_X 102 y_C_add ∈ TB := tb_2 150 rfl rfl
theorem lk_X_106 : Cond.methodLink R_X 106 y_X_isBarge ∈ TB := tb_2 155 rfl rfl
theorem lk_X_109 : Cond.fieldLink R_X 109 R_C (F_C 3).2.1 (F_C 3).2.2.1 ∈ TB := tb_1 47 rfl rfl
theorem lk_X_112 : Cond.fieldLink R_X 112 R_C (F_C 4).2.1 (F_C 4).2.2.1 ∈ TB := tb_1 49 rfl rfl
theorem lk_X_115 : Cond.fieldLink R_X 115 R_C (F_C 5).2.1 (F_C 5).2.2.1 ∈ TB := tb_1 51 rfl rfl
theorem lk_X_118 : Cond.fieldLink R_X 118 R_C (F_C 6).2.1 (F_C 6).2.2.1 ∈ TB := tb_1 53 rfl rfl
theorem lk_X_121 : Cond.fieldLink R_X 121 R_C (F_C 7).2.1 (F_C 7).2.2.1 ∈ TB := tb_1 55 rfl rfl
theorem lk_X_124 : Cond.methodLink R_X 124 y_C_hasLanded ∈ TB := tb_2 159 rfl rfl
theorem lk_X_127 : Cond.methodLink R_X 127 y_C_paceOf ∈ TB := tb_2 167 rfl rfl
theorem lk_X_131 : Cond.methodLink R_X 131 y_C_noiseAt ∈ TB := tb_2 171 rfl rfl
theorem lk_X_134 : Cond.methodLink R_X 134 y_C_spillOf ∈ TB := tb_2 176 rfl rfl
theorem lk_X_138 : Cond.fieldLink R_X 138 R_C (F_C 1).2.1 (F_C 1).2.2.1 ∈ TB := tb_1 43 rfl rfl
theorem lk_X_141 : Cond.fieldLink R_X 141 R_C (F_C 2).2.1 (F_C 2).2.2.1 ∈ TB := tb_1 45 rfl rfl
theorem lk_X_144 : Cond.methodLink R_X 144 y_C_bargesAt ∈ TB := tb_2 204 rfl rfl
theorem lk_X_147 : Cond.methodLink R_X 147 y_C_passHours ∈ TB := tb_2 212 rfl rfl
theorem lk_X_151 : Cond.methodLink R_X 151 y_C_allLoads ∈ TB := tb_3 10 rfl rfl
theorem lk_X_155 : Cond.fieldLink R_X 155 R_C (F_C 10).2.1 (F_C 10).2.2.1 ∈ TB := tb_1 62 rfl rfl
theorem lk_X_158 : Cond.methodLink R_X 158 y_C_passHourByDraws ∈ TB := tb_3 22 rfl rfl
theorem lk_X_161 : Cond.methodLink R_X 161 y_X_triedCargo ∈ TB := tb_3 35 rfl rfl
theorem lk_X_165 : Cond.fieldLink R_X 165 R_C (F_C 9).2.1 (F_C 9).2.2.1 ∈ TB := tb_1 60 rfl rfl
theorem lk_X_168 : Cond.methodLink R_X 168 y_C_allLost ∈ TB := tb_3 47 rfl rfl
theorem lk_X_171 : Cond.methodLink R_X 171 y_C_landedSet ∈ TB := tb_3 51 rfl rfl
theorem lk_X_174 : Cond.methodLink R_X 174 y_C_usedLocks ∈ TB := tb_3 52 rfl rfl
theorem lk_X_177 : Cond.methodLink R_X 177 y_C_loudest ∈ TB := tb_3 56 rfl rfl
theorem lk_X_180 : Cond.methodLink R_X 180 y_X_triedFreight ∈ TB := tb_3 64 rfl rfl
theorem lk_X_183 : Cond.methodLink R_X 183 y_C_passHour ∈ TB := tb_3 72 rfl rfl
theorem lk_X_186 : Cond.methodLink R_X 186 y_C_allLanded ∈ TB := tb_3 81 rfl rfl
theorem lk_X_190 : Cond.methodLink R_X 190 y_C_loudOnTheWay ∈ TB := tb_3 102 rfl rfl
theorem lk_X_193 : Cond.methodLink R_X 193 y_JI_bitCount ∈ TB := tb_3 109 rfl rfl
theorem lk_X_198 : Cond.methodLink R_X 198 y_X_sheetAt ∈ TB := tb_3 123 rfl rfl
theorem lk_X_202 : Cond.fieldLink R_X 202 R_S (F_S 1).2.1 (F_S 1).2.2.1 ∈ TB := tb_1 154 rfl rfl
theorem lk_X_204 : Cond.methodLink R_X 204 y_X_loadFits ∈ TB := tb_3 127 rfl rfl
theorem lk_X_208 : Cond.constantLong R_X 208 (-1) ∈ TB := tb_3 135 rfl rfl
theorem lk_X_210 : Cond.methodLink R_X 210 y_X_ways ∈ TB := tb_3 136 rfl rfl
theorem lk_X_214 : Cond.constantLong R_X 214 100 ∈ TB := tb_3 139 rfl rfl
theorem lk_X_216 : Cond.methodLink R_X 216 y_X_partOf ∈ TB := tb_3 140 rfl rfl
theorem lk_X_220 : Cond.methodLink R_X 220 y_X_triedRowPart ∈ TB := tb_3 151 rfl rfl
theorem lk_X_223 : Cond.methodLink R_X 223 y_X_isRowPart ∈ TB := tb_3 159 rfl rfl
theorem lk_X_227 : Cond.fieldLink R_X 227 R_S (F_S 2).2.1 (F_S 2).2.2.1 ∈ TB := tb_1 156 rfl rfl
theorem lk_X_228 : Cond.fieldLink R_X 228 R_S (F_S 0).2.1 (F_S 0).2.2.1 ∈ TB := tb_1 152 rfl rfl
theorem lk_X_231 : Cond.methodLink R_X 231 y_X_heldLoad ∈ TB := tb_3 175 rfl rfl
theorem lk_X_234 : Cond.methodLink R_X 234 y_S_clearTo ∈ TB := tb_3 180 rfl rfl
theorem lk_X_238 : Cond.methodLink R_X 238 y_S_hasItem ∈ TB := tb_3 189 rfl rfl
theorem lk_X_241 : Cond.methodLink R_X 241 y_S_narrowed ∈ TB := tb_3 193 rfl rfl
theorem lk_X_244 : Cond.methodLink R_X 244 y_X_shelfAt ∈ TB := tb_3 205 rfl rfl
theorem lk_X_248 : Cond.methodLink R_X 248 y_H_clear ∈ TB := tb_3 209 rfl rfl
theorem lk_X_251 : Cond.methodLink R_X 251 y_H_holdBarge ∈ TB := tb_3 213 rfl rfl
theorem lk_X_254 : Cond.methodLink R_X 254 y_H_holdRow ∈ TB := tb_3 217 rfl rfl
theorem lk_X_257 : Cond.fieldLink R_X 257 R_H (F_H 0).2.1 (F_H 0).2.2.1 ∈ TB := tb_1 170 rfl rfl
theorem lk_X_260 : Cond.fieldLink R_X 260 R_H (F_H 2).2.1 (F_H 2).2.2.1 ∈ TB := tb_1 174 rfl rfl
theorem lk_X_263 : Cond.fieldLink R_X 263 R_H (F_H 3).2.1 (F_H 3).2.2.1 ∈ TB := tb_1 176 rfl rfl
theorem lk_X_266 : Cond.methodLink R_X 266 y_X_bargeOn ∈ TB := tb_3 225 rfl rfl
theorem lk_X_270 : Cond.methodLink R_X 270 y_X_isUnder ∈ TB := tb_3 229 rfl rfl
theorem lk_X_273 : Cond.fieldLink R_X 273 R_A (F_A 1).2.1 (F_A 1).2.2.1 ∈ TB := tb_1 128 rfl rfl
theorem lk_X_276 : Cond.methodLink R_X 276 y_A_perform ∈ TB := tb_3 238 rfl rfl
theorem lk_X_280 : Cond.fieldLink R_X 280 R_A (F_A 0).2.1 (F_A 0).2.2.1 ∈ TB := tb_1 126 rfl rfl
theorem lk_X_283 : Cond.methodLink R_X 283 y_C_locksWithLoss ∈ TB := tb_4 24 rfl rfl
theorem lk_X_286 : Cond.fieldLink R_X 286 R_X "KIND_ABOVE" "[I" ∈ TB := tb_3 232 rfl rfl
theorem lk_X_289 : Cond.fieldLink R_X 289 R_H (F_H 1).2.1 (F_H 1).2.2.1 ∈ TB := tb_1 172 rfl rfl
theorem lk_X_292 : Cond.methodLink R_X 292 y_C_still ∈ TB := tb_3 39 rfl rfl
theorem lk_X_295 : Cond.fieldLink R_X 295 R_C (F_C 11).2.1 (F_C 11).2.2.1 ∈ TB := tb_1 64 rfl rfl
theorem mw_JA_fill : MWS y_JA_fill b_JA_fill 4 (none) 2 := ⟨tb_1 37 rfl rfl, tb_1 36 rfl rfl, tb_1 4 rfl rfl, by decide +kernel, by decide +kernel, by decide +kernel⟩
theorem mw_X_feed : MWV y_X_feed b_X_feed 5 ((some .int)) 2 := ⟨tb_1 220 rfl rfl, tb_1 218 rfl rfl, tb_1 219 rfl rfl, tb_1 1 rfl rfl, by decide +kernel, by decide +kernel, by decide +kernel⟩
theorem mw_T_append : MWV y_T_append b_T_append 2 (none) 1 := ⟨tb_1 224 rfl rfl, tb_1 222 rfl rfl, tb_1 223 rfl rfl, tb_1 5 rfl rfl, by decide +kernel, by decide +kernel, by decide +kernel⟩
theorem mw_X_canal : MWV y_X_canal b_X_canal 2 ((some .int)) 0 := ⟨tb_1 228 rfl rfl, tb_1 226 rfl rfl, tb_1 227 rfl rfl, tb_1 1 rfl rfl, by decide +kernel, by decide +kernel, by decide +kernel⟩
theorem mw_C_copyFrom : MWV y_C_copyFrom b_C_copyFrom 2 (none) 1 := ⟨tb_1 232 rfl rfl, tb_1 230 rfl rfl, tb_1 231 rfl rfl, tb_1 2 rfl rfl, by decide +kernel, by decide +kernel, by decide +kernel⟩
theorem mw_C_clearAllButDraws : MWV y_C_clearAllButDraws b_C_clearAllButDraws 1 (none) 0 := ⟨tb_1 236 rfl rfl, tb_1 234 rfl rfl, tb_1 235 rfl rfl, tb_1 2 rfl rfl, by decide +kernel, by decide +kernel, by decide +kernel⟩
theorem mw_T_readInto : MWV y_T_readInto b_T_readInto 3 ((some .int)) 1 := ⟨tb_2 0 rfl rfl, tb_1 238 rfl rfl, tb_1 239 rfl rfl, tb_1 5 rfl rfl, by decide +kernel, by decide +kernel, by decide +kernel⟩
theorem mw_T_step : MWV y_T_step b_T_step 1 (none) 0 := ⟨tb_2 4 rfl rfl, tb_2 3 rfl rfl, tb_s (q := (y_T_step, 5)) 0 (by decide +kernel) (by decide +kernel), tb_1 5 rfl rfl, by decide +kernel, by decide +kernel, by decide +kernel⟩
theorem mw_T_byteAt : MWV y_T_byteAt b_T_byteAt 2 ((some .int)) 1 := ⟨tb_2 8 rfl rfl, tb_2 7 rfl rfl, tb_s (q := (y_T_byteAt, 5)) 1 (by decide +kernel) (by decide +kernel), tb_1 5 rfl rfl, by decide +kernel, by decide +kernel, by decide +kernel⟩
theorem mw_T_isLetter : MWS y_T_isLetter b_T_isLetter 1 ((some .boolean)) 1 := ⟨tb_2 11 rfl rfl, tb_2 10 rfl rfl, tb_1 5 rfl rfl, by decide +kernel, by decide +kernel, by decide +kernel⟩
theorem mw_T_isDigit : MWS y_T_isDigit b_T_isDigit 1 ((some .boolean)) 1 := ⟨tb_2 14 rfl rfl, tb_2 13 rfl rfl, tb_1 5 rfl rfl, by decide +kernel, by decide +kernel, by decide +kernel⟩
theorem mw_T_readLine : MWV y_T_readLine b_T_readLine 3 ((some .boolean)) 1 := ⟨tb_2 18 rfl rfl, tb_2 17 rfl rfl, tb_s (q := (y_T_readLine, 5)) 2 (by decide +kernel) (by decide +kernel), tb_1 5 rfl rfl, by decide +kernel, by decide +kernel, by decide +kernel⟩
theorem mw_T_kindName : MWS y_T_kindName b_T_kindName 1 ((some (.object "java/lang/String"))) 1 := ⟨tb_2 21 rfl rfl, tb_2 20 rfl rfl, tb_1 5 rfl rfl, by decide +kernel, by decide +kernel, by decide +kernel⟩
theorem mw_T_isName : MWV y_T_isName b_T_isName 3 ((some .boolean)) 1 := ⟨tb_2 31 rfl rfl, tb_2 30 rfl rfl, tb_s (q := (y_T_isName, 5)) 3 (by decide +kernel) (by decide +kernel), tb_1 5 rfl rfl, by decide +kernel, by decide +kernel, by decide +kernel⟩
theorem mw_JS_length : MWV y_JS_length b_JS_length 1 ((some .int)) 0 := ⟨tb_2 35 rfl rfl, tb_2 33 rfl rfl, tb_2 34 rfl rfl, tb_1 10 rfl rfl, by decide +kernel, by decide +kernel, by decide +kernel⟩
theorem mw_JS_coder : MWV y_JS_coder b_JS_coder 1 ((some .byte)) 0 := ⟨tb_2 39 rfl rfl, tb_2 37 rfl rfl, tb_2 38 rfl rfl, tb_1 10 rfl rfl, by decide +kernel, by decide +kernel, by decide +kernel⟩
theorem mw_JS_charAt : MWV y_JS_charAt b_JS_charAt 2 ((some .char)) 1 := ⟨tb_2 45 rfl rfl, tb_2 43 rfl rfl, tb_2 44 rfl rfl, tb_1 10 rfl rfl, by decide +kernel, by decide +kernel, by decide +kernel⟩
theorem mw_JS_isLatin1 : MWV y_JS_isLatin1 b_JS_isLatin1 1 ((some .boolean)) 0 := ⟨tb_2 49 rfl rfl, tb_2 47 rfl rfl, tb_2 48 rfl rfl, tb_1 10 rfl rfl, by decide +kernel, by decide +kernel, by decide +kernel⟩
theorem mw_JL_charAt : MWS y_JL_charAt b_JL_charAt 2 ((some .char)) 2 := ⟨tb_2 52 rfl rfl, tb_2 51 rfl rfl, tb_1 11 rfl rfl, by decide +kernel, by decide +kernel, by decide +kernel⟩
theorem mw_JS_checkIndex : MWS y_JS_checkIndex b_JS_checkIndex 2 (none) 2 := ⟨tb_2 55 rfl rfl, tb_2 54 rfl rfl, tb_1 10 rfl rfl, by decide +kernel, by decide +kernel, by decide +kernel⟩
theorem mw_JP_checkIndex : MWS y_JP_checkIndex b_JP_checkIndex 3 ((some .int)) 3 := ⟨tb_2 60 rfl rfl, tb_2 59 rfl rfl, tb_1 12 rfl rfl, by decide +kernel, by decide +kernel, by decide +kernel⟩
theorem mw_T_readBarge : MWV y_T_readBarge b_T_readBarge 7 ((some .boolean)) 2 := ⟨tb_2 83 rfl rfl, tb_2 82 rfl rfl, tb_s (q := (y_T_readBarge, 5)) 4 (by decide +kernel) (by decide +kernel), tb_1 5 rfl rfl, by decide +kernel, by decide +kernel, by decide +kernel⟩
theorem mw_T_takeName : MWV y_T_takeName b_T_takeName 2 ((some .boolean)) 1 := ⟨tb_2 88 rfl rfl, tb_2 87 rfl rfl, tb_s (q := (y_T_takeName, 5)) 5 (by decide +kernel) (by decide +kernel), tb_1 5 rfl rfl, by decide +kernel, by decide +kernel, by decide +kernel⟩
theorem mw_T_takeNumber : MWV y_T_takeNumber b_T_takeNumber 4 ((some .int)) 1 := ⟨tb_2 92 rfl rfl, tb_2 91 rfl rfl, tb_s (q := (y_T_takeNumber, 5)) 6 (by decide +kernel) (by decide +kernel), tb_1 5 rfl rfl, by decide +kernel, by decide +kernel, by decide +kernel⟩
theorem mw_T_takeEndOfLine : MWV y_T_takeEndOfLine b_T_takeEndOfLine 1 ((some .boolean)) 0 := ⟨tb_2 99 rfl rfl, tb_2 98 rfl rfl, tb_s (q := (y_T_takeEndOfLine, 5)) 7 (by decide +kernel) (by decide +kernel), tb_1 5 rfl rfl, by decide +kernel, by decide +kernel, by decide +kernel⟩
theorem mw_C_add : MWV y_C_add b_C_add 6 (none) 5 := ⟨tb_2 103 rfl rfl, tb_2 101 rfl rfl, tb_2 102 rfl rfl, tb_1 2 rfl rfl, by decide +kernel, by decide +kernel, by decide +kernel⟩
theorem mw_T_lawName : MWS y_T_lawName b_T_lawName 1 ((some (.object "java/lang/String"))) 1 := ⟨tb_2 106 rfl rfl, tb_2 105 rfl rfl, tb_1 5 rfl rfl, by decide +kernel, by decide +kernel, by decide +kernel⟩
theorem mw_T_readLaw : MWV y_T_readLaw b_T_readLaw 4 ((some .boolean)) 2 := ⟨tb_2 114 rfl rfl, tb_2 113 rfl rfl, tb_s (q := (y_T_readLaw, 5)) 8 (by decide +kernel) (by decide +kernel), tb_1 5 rfl rfl, by decide +kernel, by decide +kernel, by decide +kernel⟩
theorem mw_X_isLaw : MWS y_X_isLaw b_X_isLaw 1 ((some .boolean)) 1 := ⟨tb_2 117 rfl rfl, tb_2 116 rfl rfl, tb_1 1 rfl rfl, by decide +kernel, by decide +kernel, by decide +kernel⟩
theorem mw_T_readNoise : MWV y_T_readNoise b_T_readNoise 4 ((some .boolean)) 1 := ⟨tb_2 124 rfl rfl, tb_2 123 rfl rfl, tb_s (q := (y_T_readNoise, 5)) 9 (by decide +kernel) (by decide +kernel), tb_1 5 rfl rfl, by decide +kernel, by decide +kernel, by decide +kernel⟩
theorem mw_X_isLock : MWS y_X_isLock b_X_isLock 1 ((some .boolean)) 1 := ⟨tb_2 128 rfl rfl, tb_2 127 rfl rfl, tb_1 1 rfl rfl, by decide +kernel, by decide +kernel, by decide +kernel⟩
theorem mw_X_set : MWV y_X_set b_X_set 4 ((some .int)) 2 := ⟨tb_2 132 rfl rfl, tb_2 130 rfl rfl, tb_2 131 rfl rfl, tb_1 1 rfl rfl, by decide +kernel, by decide +kernel, by decide +kernel⟩
theorem mw_X_lawOf : MWV y_X_lawOf b_X_lawOf 2 ((some .int)) 1 := ⟨tb_2 138 rfl rfl, tb_2 136 rfl rfl, tb_2 137 rfl rfl, tb_1 1 rfl rfl, by decide +kernel, by decide +kernel, by decide +kernel⟩
theorem mw_X_barge : MWV y_X_barge b_X_barge 5 ((some .int)) 4 := ⟨tb_2 142 rfl rfl, tb_2 140 rfl rfl, tb_2 141 rfl rfl, tb_1 1 rfl rfl, by decide +kernel, by decide +kernel, by decide +kernel⟩
theorem mw_X_isKind : MWS y_X_isKind b_X_isKind 1 ((some .boolean)) 1 := ⟨tb_2 145 rfl rfl, tb_2 144 rfl rfl, tb_1 1 rfl rfl, by decide +kernel, by decide +kernel, by decide +kernel⟩
theorem mw_X_isLoad : MWS y_X_isLoad b_X_isLoad 1 ((some .boolean)) 1 := ⟨tb_2 148 rfl rfl, tb_2 147 rfl rfl, tb_1 1 rfl rfl, by decide +kernel, by decide +kernel, by decide +kernel⟩
theorem mw_X_of : MWV y_X_of b_X_of 3 ((some .int)) 2 := ⟨tb_2 154 rfl rfl, tb_2 152 rfl rfl, tb_2 153 rfl rfl, tb_1 1 rfl rfl, by decide +kernel, by decide +kernel, by decide +kernel⟩
theorem mw_X_isBarge : MWV y_X_isBarge b_X_isBarge 2 ((some .boolean)) 1 := ⟨tb_2 158 rfl rfl, tb_2 157 rfl rfl, tb_s (q := (y_X_isBarge, 10)) 10 (by decide +kernel) (by decide +kernel), tb_1 1 rfl rfl, by decide +kernel, by decide +kernel, by decide +kernel⟩
theorem mw_C_hasLanded : MWV y_C_hasLanded b_C_hasLanded 2 ((some .boolean)) 1 := ⟨tb_2 162 rfl rfl, tb_2 160 rfl rfl, tb_2 161 rfl rfl, tb_1 2 rfl rfl, by decide +kernel, by decide +kernel, by decide +kernel⟩
theorem mw_X_does : MWV y_X_does b_X_does 3 ((some .int)) 2 := ⟨tb_2 166 rfl rfl, tb_2 164 rfl rfl, tb_2 165 rfl rfl, tb_1 1 rfl rfl, by decide +kernel, by decide +kernel, by decide +kernel⟩
theorem mw_C_paceOf : MWV y_C_paceOf b_C_paceOf 2 ((some .int)) 1 := ⟨tb_2 170 rfl rfl, tb_2 168 rfl rfl, tb_2 169 rfl rfl, tb_1 2 rfl rfl, by decide +kernel, by decide +kernel, by decide +kernel⟩
theorem mw_C_noiseAt : MWV y_C_noiseAt b_C_noiseAt 2 ((some .int)) 1 := ⟨tb_2 174 rfl rfl, tb_2 172 rfl rfl, tb_2 173 rfl rfl, tb_1 2 rfl rfl, by decide +kernel, by decide +kernel, by decide +kernel⟩
theorem mw_C_spillOf : MWV y_C_spillOf b_C_spillOf 3 ((some .int)) 2 := ⟨tb_2 179 rfl rfl, tb_2 177 rfl rfl, tb_2 178 rfl rfl, tb_1 2 rfl rfl, by decide +kernel, by decide +kernel, by decide +kernel⟩
theorem mw_X_mind : MWV y_X_mind b_X_mind 5 ((some .int)) 3 := ⟨tb_2 183 rfl rfl, tb_2 181 rfl rfl, tb_2 182 rfl rfl, tb_1 1 rfl rfl, by decide +kernel, by decide +kernel, by decide +kernel⟩
theorem mw_X_fill : MWV y_X_fill b_X_fill 4 ((some .int)) 2 := ⟨tb_2 187 rfl rfl, tb_2 185 rfl rfl, tb_2 186 rfl rfl, tb_1 1 rfl rfl, by decide +kernel, by decide +kernel, by decide +kernel⟩
theorem mw_X_bring : MWV y_X_bring b_X_bring 4 ((some .int)) 2 := ⟨tb_2 191 rfl rfl, tb_2 189 rfl rfl, tb_2 190 rfl rfl, tb_1 1 rfl rfl, by decide +kernel, by decide +kernel, by decide +kernel⟩
theorem mw_X_send : MWV y_X_send b_X_send 4 ((some .int)) 2 := ⟨tb_2 195 rfl rfl, tb_2 193 rfl rfl, tb_2 194 rfl rfl, tb_1 1 rfl rfl, by decide +kernel, by decide +kernel, by decide +kernel⟩
theorem mw_X_noise : MWV y_X_noise b_X_noise 4 ((some .int)) 2 := ⟨tb_2 199 rfl rfl, tb_2 197 rfl rfl, tb_2 198 rfl rfl, tb_1 1 rfl rfl, by decide +kernel, by decide +kernel, by decide +kernel⟩
theorem mw_X_lock : MWV y_X_lock b_X_lock 3 ((some .int)) 2 := ⟨tb_2 203 rfl rfl, tb_2 201 rfl rfl, tb_2 202 rfl rfl, tb_1 1 rfl rfl, by decide +kernel, by decide +kernel, by decide +kernel⟩
theorem mw_C_bargesAt : MWV y_C_bargesAt b_C_bargesAt 4 ((some .int)) 1 := ⟨tb_2 207 rfl rfl, tb_2 205 rfl rfl, tb_2 206 rfl rfl, tb_1 2 rfl rfl, by decide +kernel, by decide +kernel, by decide +kernel⟩
theorem mw_X_hours : MWV y_X_hours b_X_hours 2 ((some .int)) 1 := ⟨tb_2 211 rfl rfl, tb_2 209 rfl rfl, tb_2 210 rfl rfl, tb_1 1 rfl rfl, by decide +kernel, by decide +kernel, by decide +kernel⟩
theorem mw_C_passHours : MWV y_C_passHours b_C_passHours 3 (none) 1 := ⟨tb_2 215 rfl rfl, tb_2 213 rfl rfl, tb_2 214 rfl rfl, tb_1 2 rfl rfl, by decide +kernel, by decide +kernel, by decide +kernel⟩
theorem mw_C_allLanded : MWV y_C_allLanded b_C_allLanded 1 ((some .boolean)) 0 := ⟨tb_2 219 rfl rfl, tb_2 217 rfl rfl, tb_2 218 rfl rfl, tb_1 2 rfl rfl, by decide +kernel, by decide +kernel, by decide +kernel⟩
theorem mw_C_landedSet : MWV y_C_landedSet b_C_landedSet 3 ((some .int)) 0 := ⟨tb_2 223 rfl rfl, tb_2 221 rfl rfl, tb_2 222 rfl rfl, tb_1 2 rfl rfl, by decide +kernel, by decide +kernel, by decide +kernel⟩
theorem mw_C_passHour : MWV y_C_passHour b_C_passHour 2 (none) 0 := ⟨tb_2 228 rfl rfl, tb_2 226 rfl rfl, tb_2 227 rfl rfl, tb_1 2 rfl rfl, by decide +kernel, by decide +kernel, by decide +kernel⟩
theorem mw_C_goOn : MWV y_C_goOn b_C_goOn 5 (none) 1 := ⟨tb_2 232 rfl rfl, tb_2 231 rfl rfl, tb_s (q := (y_C_goOn, 12)) 11 (by decide +kernel) (by decide +kernel), tb_1 2 rfl rfl, by decide +kernel, by decide +kernel, by decide +kernel⟩
theorem mw_C_spill : MWV y_C_spill b_C_spill 5 (none) 3 := ⟨tb_2 239 rfl rfl, tb_2 238 rfl rfl, tb_s (q := (y_C_spill, 12)) 12 (by decide +kernel) (by decide +kernel), tb_1 2 rfl rfl, by decide +kernel, by decide +kernel, by decide +kernel⟩
theorem mw_X_heldLoad : MWS y_X_heldLoad b_X_heldLoad 1 ((some .int)) 1 := ⟨tb_3 2 rfl rfl, tb_3 1 rfl rfl, tb_1 1 rfl rfl, by decide +kernel, by decide +kernel, by decide +kernel⟩
theorem mw_C_echoWithOthers : MWV y_C_echoWithOthers b_C_echoWithOthers 4 (none) 1 := ⟨tb_3 9 rfl rfl, tb_3 8 rfl rfl, tb_s (q := (y_C_echoWithOthers, 12)) 13 (by decide +kernel) (by decide +kernel), tb_1 2 rfl rfl, by decide +kernel, by decide +kernel, by decide +kernel⟩
theorem mw_C_allLoads : MWV y_C_allLoads b_C_allLoads 3 ((some .int)) 0 := ⟨tb_3 13 rfl rfl, tb_3 11 rfl rfl, tb_3 12 rfl rfl, tb_1 2 rfl rfl, by decide +kernel, by decide +kernel, by decide +kernel⟩
theorem mw_X_seed : MWV y_X_seed b_X_seed 3 ((some .int)) 1 := ⟨tb_3 17 rfl rfl, tb_3 15 rfl rfl, tb_3 16 rfl rfl, tb_1 1 rfl rfl, by decide +kernel, by decide +kernel, by decide +kernel⟩
theorem mw_X_hour : MWV y_X_hour b_X_hour 1 ((some .int)) 0 := ⟨tb_3 21 rfl rfl, tb_3 19 rfl rfl, tb_3 20 rfl rfl, tb_1 1 rfl rfl, by decide +kernel, by decide +kernel, by decide +kernel⟩
theorem mw_C_passHourByDraws : MWV y_C_passHourByDraws b_C_passHourByDraws 3 (none) 0 := ⟨tb_3 25 rfl rfl, tb_3 23 rfl rfl, tb_3 24 rfl rfl, tb_1 2 rfl rfl, by decide +kernel, by decide +kernel, by decide +kernel⟩
theorem mw_C_draw : MWV y_C_draw b_C_draw 1 ((some .int)) 0 := ⟨tb_3 29 rfl rfl, tb_3 28 rfl rfl, tb_s (q := (y_C_draw, 12)) 14 (by decide +kernel) (by decide +kernel), tb_1 2 rfl rfl, by decide +kernel, by decide +kernel, by decide +kernel⟩
theorem mw_X_spoilt : MWV y_X_spoilt b_X_spoilt 6 ((some .int)) 1 := ⟨tb_3 34 rfl rfl, tb_3 32 rfl rfl, tb_3 33 rfl rfl, tb_1 1 rfl rfl, by decide +kernel, by decide +kernel, by decide +kernel⟩
theorem mw_X_triedCargo : MWV y_X_triedCargo b_X_triedCargo 4 ((some .int)) 3 := ⟨tb_3 38 rfl rfl, tb_3 37 rfl rfl, tb_s (q := (y_X_triedCargo, 10)) 15 (by decide +kernel) (by decide +kernel), tb_1 1 rfl rfl, by decide +kernel, by decide +kernel, by decide +kernel⟩
theorem mw_C_still : MWV y_C_still b_C_still 3 (none) 1 := ⟨tb_3 42 rfl rfl, tb_3 40 rfl rfl, tb_3 41 rfl rfl, tb_1 2 rfl rfl, by decide +kernel, by decide +kernel, by decide +kernel⟩
theorem mw_X_state : MWV y_X_state b_X_state 2 ((some .int)) 1 := ⟨tb_3 46 rfl rfl, tb_3 44 rfl rfl, tb_3 45 rfl rfl, tb_1 1 rfl rfl, by decide +kernel, by decide +kernel, by decide +kernel⟩
theorem mw_C_allLost : MWV y_C_allLost b_C_allLost 3 ((some .int)) 0 := ⟨tb_3 50 rfl rfl, tb_3 48 rfl rfl, tb_3 49 rfl rfl, tb_1 2 rfl rfl, by decide +kernel, by decide +kernel, by decide +kernel⟩
theorem mw_C_usedLocks : MWV y_C_usedLocks b_C_usedLocks 3 ((some .int)) 0 := ⟨tb_3 55 rfl rfl, tb_3 53 rfl rfl, tb_3 54 rfl rfl, tb_1 2 rfl rfl, by decide +kernel, by decide +kernel, by decide +kernel⟩
theorem mw_C_loudest : MWV y_C_loudest b_C_loudest 4 ((some .int)) 0 := ⟨tb_3 59 rfl rfl, tb_3 57 rfl rfl, tb_3 58 rfl rfl, tb_1 2 rfl rfl, by decide +kernel, by decide +kernel, by decide +kernel⟩
theorem mw_X_freight : MWV y_X_freight b_X_freight 3 ((some .int)) 2 := ⟨tb_3 63 rfl rfl, tb_3 61 rfl rfl, tb_3 62 rfl rfl, tb_1 1 rfl rfl, by decide +kernel, by decide +kernel, by decide +kernel⟩
theorem mw_X_triedFreight : MWV y_X_triedFreight b_X_triedFreight 3 ((some .int)) 2 := ⟨tb_3 67 rfl rfl, tb_3 66 rfl rfl, tb_s (q := (y_X_triedFreight, 10)) 16 (by decide +kernel) (by decide +kernel), tb_1 1 rfl rfl, by decide +kernel, by decide +kernel, by decide +kernel⟩
theorem mw_X_lands : MWV y_X_lands b_X_lands 3 ((some .int)) 1 := ⟨tb_3 71 rfl rfl, tb_3 69 rfl rfl, tb_3 70 rfl rfl, tb_1 1 rfl rfl, by decide +kernel, by decide +kernel, by decide +kernel⟩
theorem mw_X_meets : MWV y_X_meets b_X_meets 4 ((some .int)) 2 := ⟨tb_3 76 rfl rfl, tb_3 74 rfl rfl, tb_3 75 rfl rfl, tb_1 1 rfl rfl, by decide +kernel, by decide +kernel, by decide +kernel⟩
theorem mw_X_quiet : MWV y_X_quiet b_X_quiet 2 ((some .int)) 0 := ⟨tb_3 80 rfl rfl, tb_3 78 rfl rfl, tb_3 79 rfl rfl, tb_1 1 rfl rfl, by decide +kernel, by decide +kernel, by decide +kernel⟩
theorem mw_X_cargo : MWV y_X_cargo b_X_cargo 2 ((some .int)) 1 := ⟨tb_3 85 rfl rfl, tb_3 83 rfl rfl, tb_3 84 rfl rfl, tb_1 1 rfl rfl, by decide +kernel, by decide +kernel, by decide +kernel⟩
theorem mw_X_stillFor : MWV y_X_stillFor b_X_stillFor 7 ((some .int)) 2 := ⟨tb_3 89 rfl rfl, tb_3 87 rfl rfl, tb_3 88 rfl rfl, tb_1 1 rfl rfl, by decide +kernel, by decide +kernel, by decide +kernel⟩
theorem mw_X_kindFor : MWV y_X_kindFor b_X_kindFor 7 ((some .int)) 2 := ⟨tb_3 93 rfl rfl, tb_3 91 rfl rfl, tb_3 92 rfl rfl, tb_1 1 rfl rfl, by decide +kernel, by decide +kernel, by decide +kernel⟩
theorem mw_X_loadFor : MWV y_X_loadFor b_X_loadFor 5 ((some .int)) 3 := ⟨tb_3 97 rfl rfl, tb_3 95 rfl rfl, tb_3 96 rfl rfl, tb_1 1 rfl rfl, by decide +kernel, by decide +kernel, by decide +kernel⟩
theorem mw_X_hushedFor : MWV y_X_hushedFor b_X_hushedFor 7 ((some .int)) 2 := ⟨tb_3 101 rfl rfl, tb_3 99 rfl rfl, tb_3 100 rfl rfl, tb_1 1 rfl rfl, by decide +kernel, by decide +kernel, by decide +kernel⟩
theorem mw_C_loudOnTheWay : MWV y_C_loudOnTheWay b_C_loudOnTheWay 6 ((some .int)) 0 := ⟨tb_3 105 rfl rfl, tb_3 103 rfl rfl, tb_3 104 rfl rfl, tb_1 2 rfl rfl, by decide +kernel, by decide +kernel, by decide +kernel⟩
theorem mw_JI_bitCount : MWS y_JI_bitCount b_JI_bitCount 1 ((some .int)) 1 := ⟨tb_3 111 rfl rfl, tb_3 110 rfl rfl, tb_1 15 rfl rfl, by decide +kernel, by decide +kernel, by decide +kernel⟩
theorem mw_X_holdFor : MWV y_X_holdFor b_X_holdFor 6 ((some .int)) 1 := ⟨tb_3 118 rfl rfl, tb_3 116 rfl rfl, tb_3 117 rfl rfl, tb_1 1 rfl rfl, by decide +kernel, by decide +kernel, by decide +kernel⟩
theorem mw_X_fits : MWV y_X_fits b_X_fits 8 ((some .int)) 3 := ⟨tb_3 122 rfl rfl, tb_3 120 rfl rfl, tb_3 121 rfl rfl, tb_1 1 rfl rfl, by decide +kernel, by decide +kernel, by decide +kernel⟩
theorem mw_X_sheetAt : MWV y_X_sheetAt b_X_sheetAt 2 ((some (.object "SilenceCanal$Sheet"))) 1 := ⟨tb_3 126 rfl rfl, tb_3 125 rfl rfl, tb_s (q := (y_X_sheetAt, 10)) 17 (by decide +kernel) (by decide +kernel), tb_1 1 rfl rfl, by decide +kernel, by decide +kernel, by decide +kernel⟩
theorem mw_X_loadFits : MWV y_X_loadFits b_X_loadFits 5 ((some .boolean)) 3 := ⟨tb_3 130 rfl rfl, tb_3 129 rfl rfl, tb_s (q := (y_X_loadFits, 10)) 18 (by decide +kernel) (by decide +kernel), tb_1 1 rfl rfl, by decide +kernel, by decide +kernel, by decide +kernel⟩
theorem mw_X_odds : MWV y_X_odds b_X_odds 9 ((some .long)) 3 := ⟨tb_3 134 rfl rfl, tb_3 132 rfl rfl, tb_3 133 rfl rfl, tb_1 1 rfl rfl, by decide +kernel, by decide +kernel, by decide +kernel⟩
theorem mw_X_ways : MWS y_X_ways b_X_ways 5 ((some .long)) 2 := ⟨tb_3 138 rfl rfl, tb_3 137 rfl rfl, tb_1 1 rfl rfl, by decide +kernel, by decide +kernel, by decide +kernel⟩
theorem mw_X_partOf : MWS y_X_partOf b_X_partOf 12 ((some .long)) 3 := ⟨tb_3 142 rfl rfl, tb_3 141 rfl rfl, tb_1 1 rfl rfl, by decide +kernel, by decide +kernel, by decide +kernel⟩
theorem mw_X_hope : MWV y_X_hope b_X_hope 3 ((some .long)) 2 := ⟨tb_3 146 rfl rfl, tb_3 144 rfl rfl, tb_3 145 rfl rfl, tb_1 1 rfl rfl, by decide +kernel, by decide +kernel, by decide +kernel⟩
theorem mw_X_prove : MWV y_X_prove b_X_prove 5 ((some .int)) 2 := ⟨tb_3 150 rfl rfl, tb_3 148 rfl rfl, tb_3 149 rfl rfl, tb_1 1 rfl rfl, by decide +kernel, by decide +kernel, by decide +kernel⟩
theorem mw_X_triedRowPart : MWV y_X_triedRowPart b_X_triedRowPart 3 ((some .int)) 2 := ⟨tb_3 154 rfl rfl, tb_3 153 rfl rfl, tb_s (q := (y_X_triedRowPart, 10)) 19 (by decide +kernel) (by decide +kernel), tb_1 1 rfl rfl, by decide +kernel, by decide +kernel, by decide +kernel⟩
theorem mw_X_row : MWV y_X_row b_X_row 3 ((some .int)) 2 := ⟨tb_3 158 rfl rfl, tb_3 156 rfl rfl, tb_3 157 rfl rfl, tb_1 1 rfl rfl, by decide +kernel, by decide +kernel, by decide +kernel⟩
theorem mw_X_isRowPart : MWV y_X_isRowPart b_X_isRowPart 3 ((some .boolean)) 2 := ⟨tb_3 162 rfl rfl, tb_3 161 rfl rfl, tb_s (q := (y_X_isRowPart, 10)) 20 (by decide +kernel) (by decide +kernel), tb_1 1 rfl rfl, by decide +kernel, by decide +kernel, by decide +kernel⟩
theorem mw_X_alterRow : MWV y_X_alterRow b_X_alterRow 5 ((some .int)) 3 := ⟨tb_3 166 rfl rfl, tb_3 164 rfl rfl, tb_3 165 rfl rfl, tb_1 1 rfl rfl, by decide +kernel, by decide +kernel, by decide +kernel⟩
theorem mw_X_judge : MWV y_X_judge b_X_judge 4 ((some .int)) 1 := ⟨tb_3 170 rfl rfl, tb_3 168 rfl rfl, tb_3 169 rfl rfl, tb_1 1 rfl rfl, by decide +kernel, by decide +kernel, by decide +kernel⟩
theorem mw_X_minds : MWV y_X_minds b_X_minds 7 ((some .int)) 4 := ⟨tb_3 174 rfl rfl, tb_3 172 rfl rfl, tb_3 173 rfl rfl, tb_1 1 rfl rfl, by decide +kernel, by decide +kernel, by decide +kernel⟩
theorem mw_X_sheet : MWV y_X_sheet b_X_sheet 5 ((some .int)) 3 := ⟨tb_3 179 rfl rfl, tb_3 177 rfl rfl, tb_3 178 rfl rfl, tb_1 1 rfl rfl, by decide +kernel, by decide +kernel, by decide +kernel⟩
theorem mw_S_clearTo : MWV y_S_clearTo b_S_clearTo 3 (none) 2 := ⟨tb_3 183 rfl rfl, tb_3 181 rfl rfl, tb_3 182 rfl rfl, tb_1 7 rfl rfl, by decide +kernel, by decide +kernel, by decide +kernel⟩
theorem mw_X_put : MWV y_X_put b_X_put 5 ((some .int)) 3 := ⟨tb_3 188 rfl rfl, tb_3 186 rfl rfl, tb_3 187 rfl rfl, tb_1 1 rfl rfl, by decide +kernel, by decide +kernel, by decide +kernel⟩
theorem mw_S_hasItem : MWV y_S_hasItem b_S_hasItem 2 ((some .boolean)) 1 := ⟨tb_3 192 rfl rfl, tb_3 190 rfl rfl, tb_3 191 rfl rfl, tb_1 7 rfl rfl, by decide +kernel, by decide +kernel, by decide +kernel⟩
theorem mw_S_narrowed : MWV y_S_narrowed b_S_narrowed 2 ((some .int)) 1 := ⟨tb_3 196 rfl rfl, tb_3 194 rfl rfl, tb_3 195 rfl rfl, tb_1 7 rfl rfl, by decide +kernel, by decide +kernel, by decide +kernel⟩
theorem mw_X_item : MWV y_X_item b_X_item 5 ((some .int)) 3 := ⟨tb_3 200 rfl rfl, tb_3 198 rfl rfl, tb_3 199 rfl rfl, tb_1 1 rfl rfl, by decide +kernel, by decide +kernel, by decide +kernel⟩
theorem mw_X_shelf : MWV y_X_shelf b_X_shelf 6 ((some .int)) 3 := ⟨tb_3 204 rfl rfl, tb_3 202 rfl rfl, tb_3 203 rfl rfl, tb_1 1 rfl rfl, by decide +kernel, by decide +kernel, by decide +kernel⟩
theorem mw_X_shelfAt : MWV y_X_shelfAt b_X_shelfAt 2 ((some (.object "SilenceCanal$Shelf"))) 1 := ⟨tb_3 208 rfl rfl, tb_3 207 rfl rfl, tb_s (q := (y_X_shelfAt, 10)) 21 (by decide +kernel) (by decide +kernel), tb_1 1 rfl rfl, by decide +kernel, by decide +kernel, by decide +kernel⟩
theorem mw_H_clear : MWV y_H_clear b_H_clear 1 (none) 0 := ⟨tb_3 212 rfl rfl, tb_3 210 rfl rfl, tb_3 211 rfl rfl, tb_1 8 rfl rfl, by decide +kernel, by decide +kernel, by decide +kernel⟩
theorem mw_H_holdBarge : MWV y_H_holdBarge b_H_holdBarge 2 (none) 1 := ⟨tb_3 216 rfl rfl, tb_3 214 rfl rfl, tb_3 215 rfl rfl, tb_1 8 rfl rfl, by decide +kernel, by decide +kernel, by decide +kernel⟩
theorem mw_H_holdRow : MWV y_H_holdRow b_H_holdRow 3 (none) 2 := ⟨tb_3 220 rfl rfl, tb_3 218 rfl rfl, tb_3 219 rfl rfl, tb_1 8 rfl rfl, by decide +kernel, by decide +kernel, by decide +kernel⟩
theorem mw_X_taken : MWV y_X_taken b_X_taken 6 ((some .int)) 2 := ⟨tb_3 224 rfl rfl, tb_3 222 rfl rfl, tb_3 223 rfl rfl, tb_1 1 rfl rfl, by decide +kernel, by decide +kernel, by decide +kernel⟩
theorem mw_X_bargeOn : MWV y_X_bargeOn b_X_bargeOn 2 ((some .int)) 1 := ⟨tb_3 228 rfl rfl, tb_3 227 rfl rfl, tb_s (q := (y_X_bargeOn, 10)) 22 (by decide +kernel) (by decide +kernel), tb_1 1 rfl rfl, by decide +kernel, by decide +kernel, by decide +kernel⟩
theorem mw_X_isUnder : MWS y_X_isUnder b_X_isUnder 4 ((some .boolean)) 2 := ⟨tb_3 231 rfl rfl, tb_3 230 rfl rfl, tb_1 1 rfl rfl, by decide +kernel, by decide +kernel, by decide +kernel⟩
theorem mw_X_act : MWV y_X_act b_X_act 5 ((some .int)) 3 := ⟨tb_3 237 rfl rfl, tb_3 235 rfl rfl, tb_3 236 rfl rfl, tb_1 1 rfl rfl, by decide +kernel, by decide +kernel, by decide +kernel⟩
theorem mw_A_perform : MWV y_A_perform b_A_perform 7 ((some .int)) 5 := ⟨tb_4 1 rfl rfl, tb_3 239 rfl rfl, tb_4 0 rfl rfl, tb_1 6 rfl rfl, by decide +kernel, by decide +kernel, by decide +kernel⟩
theorem mw_A_bodyOf : MWV y_A_bodyOf b_A_bodyOf 3 ((some .int)) 1 := ⟨tb_4 5 rfl rfl, tb_4 4 rfl rfl, tb_s (q := (y_A_bodyOf, 6)) 23 (by decide +kernel) (by decide +kernel), tb_1 6 rfl rfl, by decide +kernel, by decide +kernel, by decide +kernel⟩
theorem mw_A_run : MWV y_A_run b_A_run 5 ((some .int)) 3 := ⟨tb_4 11 rfl rfl, tb_4 10 rfl rfl, tb_s (q := (y_A_run, 6)) 24 (by decide +kernel) (by decide +kernel), tb_1 6 rfl rfl, by decide +kernel, by decide +kernel, by decide +kernel⟩
theorem mw_A_partedBy : MWV y_A_partedBy b_A_partedBy 3 ((some .int)) 2 := ⟨tb_4 15 rfl rfl, tb_4 14 rfl rfl, tb_s (q := (y_A_partedBy, 6)) 25 (by decide +kernel) (by decide +kernel), tb_1 6 rfl rfl, by decide +kernel, by decide +kernel, by decide +kernel⟩
theorem mw_X_trace : MWV y_X_trace b_X_trace 2 ((some .int)) 1 := ⟨tb_4 19 rfl rfl, tb_4 17 rfl rfl, tb_4 18 rfl rfl, tb_1 1 rfl rfl, by decide +kernel, by decide +kernel, by decide +kernel⟩
theorem mw_X_many : MWV y_X_many b_X_many 2 ((some .int)) 1 := ⟨tb_4 23 rfl rfl, tb_4 21 rfl rfl, tb_4 22 rfl rfl, tb_1 1 rfl rfl, by decide +kernel, by decide +kernel, by decide +kernel⟩
theorem mw_C_locksWithLoss : MWV y_C_locksWithLoss b_C_locksWithLoss 3 ((some .int)) 0 := ⟨tb_4 27 rfl rfl, tb_4 25 rfl rfl, tb_4 26 rfl rfl, tb_1 2 rfl rfl, by decide +kernel, by decide +kernel, by decide +kernel⟩
theorem mw_X_keep : MWV y_X_keep b_X_keep 1 ((some .int)) 0 := ⟨tb_4 31 rfl rfl, tb_4 29 rfl rfl, tb_4 30 rfl rfl, tb_1 1 rfl rfl, by decide +kernel, by decide +kernel, by decide +kernel⟩
theorem mw_X_again : MWV y_X_again b_X_again 1 ((some .int)) 0 := ⟨tb_4 35 rfl rfl, tb_4 33 rfl rfl, tb_4 34 rfl rfl, tb_1 1 rfl rfl, by decide +kernel, by decide +kernel, by decide +kernel⟩
theorem mw_M_first : MWV y_M_first b_M_first 2 (none) 0 := ⟨tb_4 45 rfl rfl, tb_4 44 rfl rfl, tb_s (q := (y_M_first, 25)) 26 (by decide +kernel) (by decide +kernel), tb_1 9 rfl rfl, by decide +kernel, by decide +kernel, by decide +kernel⟩
theorem mw_M_set : MWV y_M_set b_M_set 3 ((some .int)) 2 := ⟨tb_4 127 rfl rfl, tb_4 125 rfl rfl, tb_4 126 rfl rfl, tb_1 9 rfl rfl, by decide +kernel, by decide +kernel, by decide +kernel⟩
theorem mw_M_isLaw : MWS y_M_isLaw b_M_isLaw 2 ((some .boolean)) 2 := ⟨tb_4 130 rfl rfl, tb_4 129 rfl rfl, tb_1 9 rfl rfl, by decide +kernel, by decide +kernel, by decide +kernel⟩
theorem mw_M_in : MWS y_M_in b_M_in 6 ((some .boolean)) 3 := ⟨tb_4 134 rfl rfl, tb_4 133 rfl rfl, tb_1 9 rfl rfl, by decide +kernel, by decide +kernel, by decide +kernel⟩
theorem mw_M_becomes : MWV y_M_becomes b_M_becomes 4 ((some .int)) 2 := ⟨tb_4 140 rfl rfl, tb_4 139 rfl rfl, tb_s (q := (y_M_becomes, 25)) 27 (by decide +kernel) (by decide +kernel), tb_1 9 rfl rfl, by decide +kernel, by decide +kernel, by decide +kernel⟩
theorem mw_M_lawOf : MWV y_M_lawOf b_M_lawOf 2 ((some .int)) 1 := ⟨tb_4 144 rfl rfl, tb_4 142 rfl rfl, tb_4 143 rfl rfl, tb_1 9 rfl rfl, by decide +kernel, by decide +kernel, by decide +kernel⟩
theorem mw_M_barge : MWV y_M_barge b_M_barge 5 ((some .int)) 4 := ⟨tb_4 148 rfl rfl, tb_4 146 rfl rfl, tb_4 147 rfl rfl, tb_1 9 rfl rfl, by decide +kernel, by decide +kernel, by decide +kernel⟩
theorem mw_M_isLock : MWS y_M_isLock b_M_isLock 1 ((some .boolean)) 1 := ⟨tb_4 152 rfl rfl, tb_4 151 rfl rfl, tb_1 9 rfl rfl, by decide +kernel, by decide +kernel, by decide +kernel⟩
theorem mw_M_comes : MWV y_M_comes b_M_comes 7 ((some .int)) 5 := ⟨tb_4 156 rfl rfl, tb_4 155 rfl rfl, tb_s (q := (y_M_comes, 25)) 28 (by decide +kernel) (by decide +kernel), tb_1 9 rfl rfl, by decide +kernel, by decide +kernel, by decide +kernel⟩
theorem mw_M_puts : MWV y_M_puts b_M_puts 4 (none) 3 := ⟨tb_4 160 rfl rfl, tb_4 159 rfl rfl, tb_s (q := (y_M_puts, 25)) 29 (by decide +kernel) (by decide +kernel), tb_1 9 rfl rfl, by decide +kernel, by decide +kernel, by decide +kernel⟩
theorem mw_M_of : MWV y_M_of b_M_of 3 ((some .int)) 2 := ⟨tb_4 164 rfl rfl, tb_4 162 rfl rfl, tb_4 163 rfl rfl, tb_1 9 rfl rfl, by decide +kernel, by decide +kernel, by decide +kernel⟩
theorem mw_M_isBarge : MWV y_M_isBarge b_M_isBarge 2 ((some .boolean)) 1 := ⟨tb_4 168 rfl rfl, tb_4 167 rfl rfl, tb_s (q := (y_M_isBarge, 25)) 30 (by decide +kernel) (by decide +kernel), tb_1 9 rfl rfl, by decide +kernel, by decide +kernel, by decide +kernel⟩
theorem mw_M_hasLanded : MWV y_M_hasLanded b_M_hasLanded 2 ((some .boolean)) 1 := ⟨tb_4 172 rfl rfl, tb_4 171 rfl rfl, tb_s (q := (y_M_hasLanded, 25)) 31 (by decide +kernel) (by decide +kernel), tb_1 9 rfl rfl, by decide +kernel, by decide +kernel, by decide +kernel⟩
theorem mw_M_get : MWV y_M_get b_M_get 3 ((some .int)) 2 := ⟨tb_4 176 rfl rfl, tb_4 175 rfl rfl, tb_s (q := (y_M_get, 25)) 32 (by decide +kernel) (by decide +kernel), tb_1 9 rfl rfl, by decide +kernel, by decide +kernel, by decide +kernel⟩
theorem mw_M_does : MWV y_M_does b_M_does 3 ((some .int)) 2 := ⟨tb_4 180 rfl rfl, tb_4 178 rfl rfl, tb_4 179 rfl rfl, tb_1 9 rfl rfl, by decide +kernel, by decide +kernel, by decide +kernel⟩
theorem mw_M_pace : MWV y_M_pace b_M_pace 2 ((some .int)) 1 := ⟨tb_4 184 rfl rfl, tb_4 183 rfl rfl, tb_s (q := (y_M_pace, 25)) 33 (by decide +kernel) (by decide +kernel), tb_1 9 rfl rfl, by decide +kernel, by decide +kernel, by decide +kernel⟩
theorem mw_M_spills : MWV y_M_spills b_M_spills 3 ((some .int)) 1 := ⟨tb_4 188 rfl rfl, tb_4 187 rfl rfl, tb_s (q := (y_M_spills, 25)) 34 (by decide +kernel) (by decide +kernel), tb_1 9 rfl rfl, by decide +kernel, by decide +kernel, by decide +kernel⟩
theorem mw_M_mind : MWV y_M_mind b_M_mind 4 ((some .int)) 3 := ⟨tb_4 192 rfl rfl, tb_4 190 rfl rfl, tb_4 191 rfl rfl, tb_1 9 rfl rfl, by decide +kernel, by decide +kernel, by decide +kernel⟩
theorem mw_M_fill : MWV y_M_fill b_M_fill 3 ((some .int)) 2 := ⟨tb_4 196 rfl rfl, tb_4 194 rfl rfl, tb_4 195 rfl rfl, tb_1 9 rfl rfl, by decide +kernel, by decide +kernel, by decide +kernel⟩
theorem mw_M_bring : MWV y_M_bring b_M_bring 3 ((some .int)) 2 := ⟨tb_4 200 rfl rfl, tb_4 198 rfl rfl, tb_4 199 rfl rfl, tb_1 9 rfl rfl, by decide +kernel, by decide +kernel, by decide +kernel⟩
theorem mw_M_send : MWV y_M_send b_M_send 3 ((some .int)) 2 := ⟨tb_4 204 rfl rfl, tb_4 202 rfl rfl, tb_4 203 rfl rfl, tb_1 9 rfl rfl, by decide +kernel, by decide +kernel, by decide +kernel⟩
theorem mw_M_noise : MWV y_M_noise b_M_noise 3 ((some .int)) 2 := ⟨tb_4 208 rfl rfl, tb_4 206 rfl rfl, tb_4 207 rfl rfl, tb_1 9 rfl rfl, by decide +kernel, by decide +kernel, by decide +kernel⟩
theorem mw_M_lock : MWV y_M_lock b_M_lock 5 ((some .int)) 2 := ⟨tb_4 212 rfl rfl, tb_4 210 rfl rfl, tb_4 211 rfl rfl, tb_1 9 rfl rfl, by decide +kernel, by decide +kernel, by decide +kernel⟩
theorem mw_M_hours : MWV y_M_hours b_M_hours 2 ((some .int)) 1 := ⟨tb_4 217 rfl rfl, tb_4 215 rfl rfl, tb_4 216 rfl rfl, tb_1 9 rfl rfl, by decide +kernel, by decide +kernel, by decide +kernel⟩
theorem mw_M_hoursGo : MWV y_M_hoursGo b_M_hoursGo 3 (none) 1 := ⟨tb_4 222 rfl rfl, tb_4 221 rfl rfl, tb_s (q := (y_M_hoursGo, 25)) 35 (by decide +kernel) (by decide +kernel), tb_1 9 rfl rfl, by decide +kernel, by decide +kernel, by decide +kernel⟩
theorem mw_M_hourGoes : MWV y_M_hourGoes b_M_hourGoes 2 (none) 0 := ⟨tb_4 226 rfl rfl, tb_4 225 rfl rfl, tb_s (q := (y_M_hourGoes, 25)) 36 (by decide +kernel) (by decide +kernel), tb_1 9 rfl rfl, by decide +kernel, by decide +kernel, by decide +kernel⟩
theorem mw_M_goes : MWV y_M_goes b_M_goes 3 (none) 1 := ⟨tb_4 230 rfl rfl, tb_4 229 rfl rfl, tb_s (q := (y_M_goes, 25)) 37 (by decide +kernel) (by decide +kernel), tb_1 9 rfl rfl, by decide +kernel, by decide +kernel, by decide +kernel⟩
theorem mw_M_spilt : MWV y_M_spilt b_M_spilt 6 (none) 2 := ⟨tb_4 234 rfl rfl, tb_4 233 rfl rfl, tb_s (q := (y_M_spilt, 25)) 38 (by decide +kernel) (by decide +kernel), tb_1 9 rfl rfl, by decide +kernel, by decide +kernel, by decide +kernel⟩
theorem mw_M_held : MWS y_M_held b_M_held 3 ((some .int)) 3 := ⟨tb_4 237 rfl rfl, tb_4 236 rfl rfl, tb_1 9 rfl rfl, by decide +kernel, by decide +kernel, by decide +kernel⟩
theorem mw_M_loads : MWV y_M_loads b_M_loads 3 ((some .int)) 0 := ⟨tb_5 1 rfl rfl, tb_5 0 rfl rfl, tb_s (q := (y_M_loads, 25)) 39 (by decide +kernel) (by decide +kernel), tb_1 9 rfl rfl, by decide +kernel, by decide +kernel, by decide +kernel⟩
theorem mw_M_seed : MWV y_M_seed b_M_seed 2 ((some .int)) 1 := ⟨tb_5 5 rfl rfl, tb_5 3 rfl rfl, tb_5 4 rfl rfl, tb_1 9 rfl rfl, by decide +kernel, by decide +kernel, by decide +kernel⟩
theorem mw_M_hour : MWV y_M_hour b_M_hour 3 ((some .int)) 0 := ⟨tb_5 9 rfl rfl, tb_5 7 rfl rfl, tb_5 8 rfl rfl, tb_1 9 rfl rfl, by decide +kernel, by decide +kernel, by decide +kernel⟩
theorem mw_M_drawn : MWV y_M_drawn b_M_drawn 1 ((some .int)) 0 := ⟨tb_5 13 rfl rfl, tb_5 12 rfl rfl, tb_s (q := (y_M_drawn, 25)) 40 (by decide +kernel) (by decide +kernel), tb_1 9 rfl rfl, by decide +kernel, by decide +kernel, by decide +kernel⟩
theorem mw_M_spoilt : MWV y_M_spoilt b_M_spoilt 6 ((some .int)) 1 := ⟨tb_5 18 rfl rfl, tb_5 16 rfl rfl, tb_5 17 rfl rfl, tb_1 9 rfl rfl, by decide +kernel, by decide +kernel, by decide +kernel⟩
theorem mw_M_keepAside : MWV y_M_keepAside b_M_keepAside 2 (none) 0 := ⟨tb_5 23 rfl rfl, tb_5 22 rfl rfl, tb_s (q := (y_M_keepAside, 25)) 41 (by decide +kernel) (by decide +kernel), tb_1 9 rfl rfl, by decide +kernel, by decide +kernel, by decide +kernel⟩
theorem mw_M_cargoBehind : MWV y_M_cargoBehind b_M_cargoBehind 3 ((some .int)) 1 := ⟨tb_5 27 rfl rfl, tb_5 26 rfl rfl, tb_s (q := (y_M_cargoBehind, 25)) 42 (by decide +kernel) (by decide +kernel), tb_1 9 rfl rfl, by decide +kernel, by decide +kernel, by decide +kernel⟩
theorem mw_M_putBack : MWV y_M_putBack b_M_putBack 2 (none) 0 := ⟨tb_5 31 rfl rfl, tb_5 30 rfl rfl, tb_s (q := (y_M_putBack, 25)) 43 (by decide +kernel) (by decide +kernel), tb_1 9 rfl rfl, by decide +kernel, by decide +kernel, by decide +kernel⟩
theorem mw_M_state : MWV y_M_state b_M_state 2 ((some .int)) 1 := ⟨tb_5 36 rfl rfl, tb_5 34 rfl rfl, tb_5 35 rfl rfl, tb_1 9 rfl rfl, by decide +kernel, by decide +kernel, by decide +kernel⟩
theorem mw_M_lostAll : MWV y_M_lostAll b_M_lostAll 3 ((some .int)) 0 := ⟨tb_5 40 rfl rfl, tb_5 39 rfl rfl, tb_s (q := (y_M_lostAll, 25)) 44 (by decide +kernel) (by decide +kernel), tb_1 9 rfl rfl, by decide +kernel, by decide +kernel, by decide +kernel⟩
theorem mw_M_landed : MWV y_M_landed b_M_landed 3 ((some .int)) 0 := ⟨tb_5 44 rfl rfl, tb_5 43 rfl rfl, tb_s (q := (y_M_landed, 25)) 45 (by decide +kernel) (by decide +kernel), tb_1 9 rfl rfl, by decide +kernel, by decide +kernel, by decide +kernel⟩
theorem mw_M_places : MWV y_M_places b_M_places 3 ((some .int)) 0 := ⟨tb_5 48 rfl rfl, tb_5 47 rfl rfl, tb_s (q := (y_M_places, 25)) 46 (by decide +kernel) (by decide +kernel), tb_1 9 rfl rfl, by decide +kernel, by decide +kernel, by decide +kernel⟩
theorem mw_M_loudest : MWV y_M_loudest b_M_loudest 3 ((some .int)) 0 := ⟨tb_5 52 rfl rfl, tb_5 51 rfl rfl, tb_s (q := (y_M_loudest, 25)) 47 (by decide +kernel) (by decide +kernel), tb_1 9 rfl rfl, by decide +kernel, by decide +kernel, by decide +kernel⟩
theorem mw_M_freight : MWV y_M_freight b_M_freight 3 ((some .int)) 2 := ⟨tb_5 56 rfl rfl, tb_5 54 rfl rfl, tb_5 55 rfl rfl, tb_1 9 rfl rfl, by decide +kernel, by decide +kernel, by decide +kernel⟩
theorem mw_M_loadOf : MWS y_M_loadOf b_M_loadOf 1 ((some .int)) 1 := ⟨tb_5 59 rfl rfl, tb_5 58 rfl rfl, tb_1 9 rfl rfl, by decide +kernel, by decide +kernel, by decide +kernel⟩
theorem mw_M_behind : MWV y_M_behind b_M_behind 4 ((some .int)) 2 := ⟨tb_5 63 rfl rfl, tb_5 62 rfl rfl, tb_s (q := (y_M_behind, 25)) 48 (by decide +kernel) (by decide +kernel), tb_1 9 rfl rfl, by decide +kernel, by decide +kernel, by decide +kernel⟩
theorem mw_M_lands : MWV y_M_lands b_M_lands 4 ((some .int)) 1 := ⟨tb_5 67 rfl rfl, tb_5 65 rfl rfl, tb_5 66 rfl rfl, tb_1 9 rfl rfl, by decide +kernel, by decide +kernel, by decide +kernel⟩
theorem mw_M_meets : MWV y_M_meets b_M_meets 5 ((some .int)) 2 := ⟨tb_5 71 rfl rfl, tb_5 69 rfl rfl, tb_5 70 rfl rfl, tb_1 9 rfl rfl, by decide +kernel, by decide +kernel, by decide +kernel⟩
theorem mw_M_quiet : MWV y_M_quiet b_M_quiet 4 ((some .int)) 0 := ⟨tb_5 75 rfl rfl, tb_5 73 rfl rfl, tb_5 74 rfl rfl, tb_1 9 rfl rfl, by decide +kernel, by decide +kernel, by decide +kernel⟩
theorem mw_M_cargo : MWV y_M_cargo b_M_cargo 2 ((some .int)) 1 := ⟨tb_5 79 rfl rfl, tb_5 77 rfl rfl, tb_5 78 rfl rfl, tb_1 9 rfl rfl, by decide +kernel, by decide +kernel, by decide +kernel⟩
theorem mw_M_stillFor : MWV y_M_stillFor b_M_stillFor 7 ((some .int)) 2 := ⟨tb_5 83 rfl rfl, tb_5 81 rfl rfl, tb_5 82 rfl rfl, tb_1 9 rfl rfl, by decide +kernel, by decide +kernel, by decide +kernel⟩
theorem mw_M_isShort : MWS y_M_isShort b_M_isShort 1 ((some .boolean)) 1 := ⟨tb_5 86 rfl rfl, tb_5 85 rfl rfl, tb_1 9 rfl rfl, by decide +kernel, by decide +kernel, by decide +kernel⟩
theorem mw_M_kindFor : MWV y_M_kindFor b_M_kindFor 7 ((some .int)) 2 := ⟨tb_5 90 rfl rfl, tb_5 88 rfl rfl, tb_5 89 rfl rfl, tb_1 9 rfl rfl, by decide +kernel, by decide +kernel, by decide +kernel⟩
theorem mw_M_loadFor : MWV y_M_loadFor b_M_loadFor 5 ((some .int)) 3 := ⟨tb_5 94 rfl rfl, tb_5 92 rfl rfl, tb_5 93 rfl rfl, tb_1 9 rfl rfl, by decide +kernel, by decide +kernel, by decide +kernel⟩
theorem mw_M_hushedFor : MWV y_M_hushedFor b_M_hushedFor 6 ((some .int)) 2 := ⟨tb_5 98 rfl rfl, tb_5 96 rfl rfl, tb_5 97 rfl rfl, tb_1 9 rfl rfl, by decide +kernel, by decide +kernel, by decide +kernel⟩
theorem mw_M_bits : MWS y_M_bits b_M_bits 3 ((some .int)) 1 := ⟨tb_5 103 rfl rfl, tb_5 102 rfl rfl, tb_1 9 rfl rfl, by decide +kernel, by decide +kernel, by decide +kernel⟩
theorem mw_M_holdFor : MWV y_M_holdFor b_M_holdFor 6 ((some .int)) 1 := ⟨tb_5 107 rfl rfl, tb_5 105 rfl rfl, tb_5 106 rfl rfl, tb_1 9 rfl rfl, by decide +kernel, by decide +kernel, by decide +kernel⟩
theorem mw_M_fits : MWV y_M_fits b_M_fits 11 ((some .int)) 3 := ⟨tb_5 111 rfl rfl, tb_5 109 rfl rfl, tb_5 110 rfl rfl, tb_1 9 rfl rfl, by decide +kernel, by decide +kernel, by decide +kernel⟩
theorem mw_M_isSheet : MWS y_M_isSheet b_M_isSheet 1 ((some .boolean)) 1 := ⟨tb_5 114 rfl rfl, tb_5 113 rfl rfl, tb_1 9 rfl rfl, by decide +kernel, by decide +kernel, by decide +kernel⟩
theorem mw_M_odds : MWV y_M_odds b_M_odds 9 ((some .long)) 3 := ⟨tb_5 119 rfl rfl, tb_5 117 rfl rfl, tb_5 118 rfl rfl, tb_1 9 rfl rfl, by decide +kernel, by decide +kernel, by decide +kernel⟩
theorem mw_M_ways : MWS y_M_ways b_M_ways 5 ((some .long)) 2 := ⟨tb_5 124 rfl rfl, tb_5 123 rfl rfl, tb_1 9 rfl rfl, by decide +kernel, by decide +kernel, by decide +kernel⟩
theorem mw_M_partOf : MWS y_M_partOf b_M_partOf 5 ((some .long)) 3 := ⟨tb_5 127 rfl rfl, tb_5 126 rfl rfl, tb_1 9 rfl rfl, by decide +kernel, by decide +kernel, by decide +kernel⟩
theorem mw_M_common : MWS y_M_common b_M_common 10 ((some .long)) 2 := ⟨tb_5 130 rfl rfl, tb_5 129 rfl rfl, tb_1 9 rfl rfl, by decide +kernel, by decide +kernel, by decide +kernel⟩
theorem mw_M_hope : MWV y_M_hope b_M_hope 3 ((some .long)) 2 := ⟨tb_5 134 rfl rfl, tb_5 132 rfl rfl, tb_5 133 rfl rfl, tb_1 9 rfl rfl, by decide +kernel, by decide +kernel, by decide +kernel⟩
theorem mw_M_feed : MWV y_M_feed b_M_feed 5 ((some .int)) 2 := ⟨tb_5 138 rfl rfl, tb_5 136 rfl rfl, tb_5 137 rfl rfl, tb_1 9 rfl rfl, by decide +kernel, by decide +kernel, by decide +kernel⟩
theorem mw_M_canal : MWV y_M_canal b_M_canal 3 ((some .int)) 0 := ⟨tb_5 143 rfl rfl, tb_5 141 rfl rfl, tb_5 142 rfl rfl, tb_1 9 rfl rfl, by decide +kernel, by decide +kernel, by decide +kernel⟩
theorem mw_M_readsAll : MWV y_M_readsAll b_M_readsAll 5 ((some .boolean)) 1 := ⟨tb_5 147 rfl rfl, tb_5 146 rfl rfl, tb_s (q := (y_M_readsAll, 25)) 49 (by decide +kernel) (by decide +kernel), tb_1 9 rfl rfl, by decide +kernel, by decide +kernel, by decide +kernel⟩
theorem mw_M_next : MWV y_M_next b_M_next 1 (none) 0 := ⟨tb_5 151 rfl rfl, tb_5 150 rfl rfl, tb_s (q := (y_M_next, 25)) 50 (by decide +kernel) (by decide +kernel), tb_1 9 rfl rfl, by decide +kernel, by decide +kernel, by decide +kernel⟩
theorem mw_M_isRow : MWV y_M_isRow b_M_isRow 3 ((some .boolean)) 2 := ⟨tb_5 155 rfl rfl, tb_5 154 rfl rfl, tb_s (q := (y_M_isRow, 25)) 51 (by decide +kernel) (by decide +kernel), tb_1 9 rfl rfl, by decide +kernel, by decide +kernel, by decide +kernel⟩
theorem mw_M_wordThere : MWV y_M_wordThere b_M_wordThere 4 ((some .int)) 0 := ⟨tb_5 159 rfl rfl, tb_5 158 rfl rfl, tb_s (q := (y_M_wordThere, 25)) 52 (by decide +kernel) (by decide +kernel), tb_1 9 rfl rfl, by decide +kernel, by decide +kernel, by decide +kernel⟩
theorem mw_M_readsBarge : MWV y_M_readsBarge b_M_readsBarge 8 ((some .boolean)) 3 := ⟨tb_5 163 rfl rfl, tb_5 162 rfl rfl, tb_s (q := (y_M_readsBarge, 25)) 53 (by decide +kernel) (by decide +kernel), tb_1 9 rfl rfl, by decide +kernel, by decide +kernel, by decide +kernel⟩
theorem mw_M_readsWord : MWV y_M_readsWord b_M_readsWord 2 ((some .boolean)) 1 := ⟨tb_5 167 rfl rfl, tb_5 166 rfl rfl, tb_s (q := (y_M_readsWord, 25)) 54 (by decide +kernel) (by decide +kernel), tb_1 9 rfl rfl, by decide +kernel, by decide +kernel, by decide +kernel⟩
theorem mw_M_isWord : MWV y_M_isWord b_M_isWord 2 ((some .boolean)) 1 := ⟨tb_5 171 rfl rfl, tb_5 170 rfl rfl, tb_s (q := (y_M_isWord, 25)) 55 (by decide +kernel) (by decide +kernel), tb_1 9 rfl rfl, by decide +kernel, by decide +kernel, by decide +kernel⟩
theorem mw_M_reads : MWV y_M_reads b_M_reads 2 ((some .boolean)) 1 := ⟨tb_5 175 rfl rfl, tb_5 174 rfl rfl, tb_s (q := (y_M_reads, 25)) 56 (by decide +kernel) (by decide +kernel), tb_1 9 rfl rfl, by decide +kernel, by decide +kernel, by decide +kernel⟩
theorem mw_M_readsNoise : MWV y_M_readsNoise b_M_readsNoise 4 ((some .boolean)) 1 := ⟨tb_5 179 rfl rfl, tb_5 178 rfl rfl, tb_s (q := (y_M_readsNoise, 25)) 57 (by decide +kernel) (by decide +kernel), tb_1 9 rfl rfl, by decide +kernel, by decide +kernel, by decide +kernel⟩
theorem mw_M_readsLaw : MWV y_M_readsLaw b_M_readsLaw 4 ((some .boolean)) 2 := ⟨tb_5 183 rfl rfl, tb_5 182 rfl rfl, tb_s (q := (y_M_readsLaw, 25)) 58 (by decide +kernel) (by decide +kernel), tb_1 9 rfl rfl, by decide +kernel, by decide +kernel, by decide +kernel⟩
theorem mw_M_prove : MWV y_M_prove b_M_prove 5 ((some .int)) 2 := ⟨tb_5 187 rfl rfl, tb_5 185 rfl rfl, tb_5 186 rfl rfl, tb_1 9 rfl rfl, by decide +kernel, by decide +kernel, by decide +kernel⟩
theorem mw_M_mustBe : MWV y_M_mustBe b_M_mustBe 3 ((some .int)) 2 := ⟨tb_5 192 rfl rfl, tb_5 191 rfl rfl, tb_s (q := (y_M_mustBe, 25)) 59 (by decide +kernel) (by decide +kernel), tb_1 9 rfl rfl, by decide +kernel, by decide +kernel, by decide +kernel⟩
theorem mw_M_row : MWV y_M_row b_M_row 3 ((some .int)) 2 := ⟨tb_5 196 rfl rfl, tb_5 194 rfl rfl, tb_5 195 rfl rfl, tb_1 9 rfl rfl, by decide +kernel, by decide +kernel, by decide +kernel⟩
theorem mw_M_alterRow : MWV y_M_alterRow b_M_alterRow 5 ((some .int)) 3 := ⟨tb_5 200 rfl rfl, tb_5 198 rfl rfl, tb_5 199 rfl rfl, tb_1 9 rfl rfl, by decide +kernel, by decide +kernel, by decide +kernel⟩
theorem mw_M_judge : MWV y_M_judge b_M_judge 5 ((some .int)) 1 := ⟨tb_5 204 rfl rfl, tb_5 202 rfl rfl, tb_5 203 rfl rfl, tb_1 9 rfl rfl, by decide +kernel, by decide +kernel, by decide +kernel⟩
theorem mw_M_minds : MWV y_M_minds b_M_minds 6 ((some .int)) 4 := ⟨tb_5 208 rfl rfl, tb_5 206 rfl rfl, tb_5 207 rfl rfl, tb_1 9 rfl rfl, by decide +kernel, by decide +kernel, by decide +kernel⟩
theorem mw_M_sheet : MWV y_M_sheet b_M_sheet 5 ((some .int)) 3 := ⟨tb_5 212 rfl rfl, tb_5 210 rfl rfl, tb_5 211 rfl rfl, tb_1 9 rfl rfl, by decide +kernel, by decide +kernel, by decide +kernel⟩
theorem mw_M_put : MWV y_M_put b_M_put 4 ((some .int)) 3 := ⟨tb_5 216 rfl rfl, tb_5 214 rfl rfl, tb_5 215 rfl rfl, tb_1 9 rfl rfl, by decide +kernel, by decide +kernel, by decide +kernel⟩
theorem mw_M_item : MWV y_M_item b_M_item 4 ((some .int)) 3 := ⟨tb_5 220 rfl rfl, tb_5 218 rfl rfl, tb_5 219 rfl rfl, tb_1 9 rfl rfl, by decide +kernel, by decide +kernel, by decide +kernel⟩
theorem mw_M_shelf : MWV y_M_shelf b_M_shelf 6 ((some .int)) 3 := ⟨tb_5 224 rfl rfl, tb_5 222 rfl rfl, tb_5 223 rfl rfl, tb_1 9 rfl rfl, by decide +kernel, by decide +kernel, by decide +kernel⟩
theorem mw_M_taken : MWV y_M_taken b_M_taken 4 ((some .int)) 2 := ⟨tb_5 228 rfl rfl, tb_5 226 rfl rfl, tb_5 227 rfl rfl, tb_1 9 rfl rfl, by decide +kernel, by decide +kernel, by decide +kernel⟩
theorem mw_M_holdsNothing : MWV y_M_holdsNothing b_M_holdsNothing 2 ((some .boolean)) 1 := ⟨tb_5 233 rfl rfl, tb_5 232 rfl rfl, tb_s (q := (y_M_holdsNothing, 25)) 60 (by decide +kernel) (by decide +kernel), tb_1 9 rfl rfl, by decide +kernel, by decide +kernel, by decide +kernel⟩
theorem mw_M_above : MWS y_M_above b_M_above 1 ((some .int)) 1 := ⟨tb_5 236 rfl rfl, tb_5 235 rfl rfl, tb_1 9 rfl rfl, by decide +kernel, by decide +kernel, by decide +kernel⟩
theorem mw_M_act : MWV y_M_act b_M_act 6 ((some .int)) 3 := ⟨tb_6 0 rfl rfl, tb_5 238 rfl rfl, tb_5 239 rfl rfl, tb_1 9 rfl rfl, by decide +kernel, by decide +kernel, by decide +kernel⟩
theorem mw_M_floatsBy : MWV y_M_floatsBy b_M_floatsBy 3 ((some .int)) 2 := ⟨tb_6 4 rfl rfl, tb_6 3 rfl rfl, tb_s (q := (y_M_floatsBy, 25)) 61 (by decide +kernel) (by decide +kernel), tb_1 9 rfl rfl, by decide +kernel, by decide +kernel, by decide +kernel⟩
theorem mw_M_ran : MWV y_M_ran b_M_ran 2 (none) 1 := ⟨tb_6 8 rfl rfl, tb_6 7 rfl rfl, tb_s (q := (y_M_ran, 25)) 62 (by decide +kernel) (by decide +kernel), tb_1 9 rfl rfl, by decide +kernel, by decide +kernel, by decide +kernel⟩
theorem mw_M_slopsBy : MWV y_M_slopsBy b_M_slopsBy 4 ((some .int)) 2 := ⟨tb_6 12 rfl rfl, tb_6 11 rfl rfl, tb_s (q := (y_M_slopsBy, 25)) 63 (by decide +kernel) (by decide +kernel), tb_1 9 rfl rfl, by decide +kernel, by decide +kernel, by decide +kernel⟩
theorem mw_M_partsBy : MWV y_M_partsBy b_M_partsBy 4 ((some .int)) 2 := ⟨tb_6 16 rfl rfl, tb_6 15 rfl rfl, tb_s (q := (y_M_partsBy, 25)) 64 (by decide +kernel) (by decide +kernel), tb_1 9 rfl rfl, by decide +kernel, by decide +kernel, by decide +kernel⟩
theorem mw_M_landsBy : MWV y_M_landsBy b_M_landsBy 4 ((some .int)) 2 := ⟨tb_6 20 rfl rfl, tb_6 19 rfl rfl, tb_s (q := (y_M_landsBy, 25)) 65 (by decide +kernel) (by decide +kernel), tb_1 9 rfl rfl, by decide +kernel, by decide +kernel, by decide +kernel⟩
theorem mw_M_trace : MWV y_M_trace b_M_trace 2 ((some .int)) 1 := ⟨tb_6 24 rfl rfl, tb_6 22 rfl rfl, tb_6 23 rfl rfl, tb_1 9 rfl rfl, by decide +kernel, by decide +kernel, by decide +kernel⟩
theorem mw_M_many : MWV y_M_many b_M_many 2 ((some .int)) 1 := ⟨tb_6 28 rfl rfl, tb_6 26 rfl rfl, tb_6 27 rfl rfl, tb_1 9 rfl rfl, by decide +kernel, by decide +kernel, by decide +kernel⟩
theorem mw_M_spoiltLocks : MWV y_M_spoiltLocks b_M_spoiltLocks 3 ((some .int)) 0 := ⟨tb_6 32 rfl rfl, tb_6 31 rfl rfl, tb_s (q := (y_M_spoiltLocks, 25)) 66 (by decide +kernel) (by decide +kernel), tb_1 9 rfl rfl, by decide +kernel, by decide +kernel, by decide +kernel⟩
theorem mw_M_keep : MWV y_M_keep b_M_keep 2 ((some .int)) 0 := ⟨tb_6 36 rfl rfl, tb_6 34 rfl rfl, tb_6 35 rfl rfl, tb_1 9 rfl rfl, by decide +kernel, by decide +kernel, by decide +kernel⟩
theorem mw_M_again : MWV y_M_again b_M_again 2 ((some .int)) 0 := ⟨tb_6 40 rfl rfl, tb_6 38 rfl rfl, tb_6 39 rfl rfl, tb_1 9 rfl rfl, by decide +kernel, by decide +kernel, by decide +kernel⟩
