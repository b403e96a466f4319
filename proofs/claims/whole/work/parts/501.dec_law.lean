theorem d_L_986 : decode code 986 = .ok (.ireturn, 1) := by decide +kernel
theorem d_L_987 : decode code 987 = .ok (.aload_n 1, 1) := by decide +kernel
theorem d_L_988 : decode code 988 = .ok (.aload_n 0, 1) := by decide +kernel
theorem d_L_989 : decode code 989 = .ok (.iload_n 3, 1) := by decide +kernel
theorem d_L_990 : decode code 990 = .ok (.iconst 1, 1) := by decide +kernel
theorem d_L_991 : decode code 991 = .ok (.iadd, 1) := by decide +kernel
theorem d_L_992 : decode code 992 = .ok (.iaload, 1) := by decide +kernel
theorem d_L_993 : decode code 993 = .ok (.aload_n 0, 1) := by decide +kernel
theorem d_L_994 : decode code 994 = .ok (.iload_n 3, 1) := by decide +kernel
theorem d_L_995 : decode code 995 = .ok (.iconst 2, 1) := by decide +kernel
theorem d_L_996 : decode code 996 = .ok (.iadd, 1) := by decide +kernel
theorem d_L_997 : decode code 997 = .ok (.iaload, 1) := by decide +kernel
theorem d_L_998 : decode code 998 = .ok (.aload_n 0, 1) := by decide +kernel
theorem d_L_999 : decode code 999 = .ok (.iload_n 3, 1) := by decide +kernel
theorem d_L_1000 : decode code 1000 = .ok (.iconst 3, 1) := by decide +kernel
theorem d_L_1001 : decode code 1001 = .ok (.iadd, 1) := by decide +kernel
theorem d_L_1002 : decode code 1002 = .ok (.iaload, 1) := by decide +kernel
theorem d_L_1003 : decode code 1003 = .ok (.invokevirtual 121, 3) := by decide +kernel
theorem d_L_1006 : decode code 1006 = .ok (.aload_n 2, 1) := by decide +kernel
theorem d_L_1007 : decode code 1007 = .ok (.aload_n 0, 1) := by decide +kernel
theorem d_L_1008 : decode code 1008 = .ok (.iload_n 3, 1) := by decide +kernel
theorem d_L_1009 : decode code 1009 = .ok (.iconst 1, 1) := by decide +kernel
theorem d_L_1010 : decode code 1010 = .ok (.iadd, 1) := by decide +kernel
theorem d_L_1011 : decode code 1011 = .ok (.iaload, 1) := by decide +kernel
theorem d_L_1012 : decode code 1012 = .ok (.aload_n 0, 1) := by decide +kernel
theorem d_L_1013 : decode code 1013 = .ok (.iload_n 3, 1) := by decide +kernel
theorem d_L_1014 : decode code 1014 = .ok (.iconst 2, 1) := by decide +kernel
theorem d_L_1015 : decode code 1015 = .ok (.iadd, 1) := by decide +kernel
theorem d_L_1016 : decode code 1016 = .ok (.iaload, 1) := by decide +kernel
theorem d_L_1017 : decode code 1017 = .ok (.aload_n 0, 1) := by decide +kernel
theorem d_L_1018 : decode code 1018 = .ok (.iload_n 3, 1) := by decide +kernel
theorem d_L_1019 : decode code 1019 = .ok (.iconst 3, 1) := by decide +kernel
theorem d_L_1020 : decode code 1020 = .ok (.iadd, 1) := by decide +kernel
theorem d_L_1021 : decode code 1021 = .ok (.iaload, 1) := by decide +kernel
theorem d_L_1022 : decode code 1022 = .ok (.invokevirtual 124, 3) := by decide +kernel
theorem d_L_1025 : decode code 1025 = .ok (.if_icmp .eq 687, 3) := by decide +kernel
theorem d_L_1028 : decode code 1028 = .ok (.iconst 0, 1) := by decide +kernel
theorem d_L_1029 : decode code 1029 = .ok (.ireturn, 1) := by decide +kernel
theorem d_L_1030 : decode code 1030 = .ok (.aload_n 1, 1) := by decide +kernel
theorem d_L_1031 : decode code 1031 = .ok (.aload_n 0, 1) := by decide +kernel
theorem d_L_1032 : decode code 1032 = .ok (.iload_n 3, 1) := by decide +kernel
theorem d_L_1033 : decode code 1033 = .ok (.iconst 1, 1) := by decide +kernel
theorem d_L_1034 : decode code 1034 = .ok (.iadd, 1) := by decide +kernel
theorem d_L_1035 : decode code 1035 = .ok (.iaload, 1) := by decide +kernel
theorem d_L_1036 : decode code 1036 = .ok (.aload_n 0, 1) := by decide +kernel
theorem d_L_1037 : decode code 1037 = .ok (.iload_n 3, 1) := by decide +kernel
theorem d_L_1038 : decode code 1038 = .ok (.iconst 2, 1) := by decide +kernel
theorem d_L_1039 : decode code 1039 = .ok (.iadd, 1) := by decide +kernel
theorem d_L_1040 : decode code 1040 = .ok (.iaload, 1) := by decide +kernel
theorem d_L_1041 : decode code 1041 = .ok (.invokevirtual 125, 3) := by decide +kernel
theorem d_L_1044 : decode code 1044 = .ok (.aload_n 2, 1) := by decide +kernel
theorem d_L_1045 : decode code 1045 = .ok (.aload_n 0, 1) := by decide +kernel
theorem d_L_1046 : decode code 1046 = .ok (.iload_n 3, 1) := by decide +kernel
theorem d_L_1047 : decode code 1047 = .ok (.iconst 1, 1) := by decide +kernel
theorem d_L_1048 : decode code 1048 = .ok (.iadd, 1) := by decide +kernel
theorem d_L_1049 : decode code 1049 = .ok (.iaload, 1) := by decide +kernel
theorem d_L_1050 : decode code 1050 = .ok (.aload_n 0, 1) := by decide +kernel
theorem d_L_1051 : decode code 1051 = .ok (.iload_n 3, 1) := by decide +kernel
theorem d_L_1052 : decode code 1052 = .ok (.iconst 2, 1) := by decide +kernel
theorem d_L_1053 : decode code 1053 = .ok (.iadd, 1) := by decide +kernel
theorem d_L_1054 : decode code 1054 = .ok (.iaload, 1) := by decide +kernel
theorem d_L_1055 : decode code 1055 = .ok (.invokevirtual 128, 3) := by decide +kernel
theorem d_L_1058 : decode code 1058 = .ok (.if_icmp .eq 654, 3) := by decide +kernel
theorem d_L_1061 : decode code 1061 = .ok (.iconst 0, 1) := by decide +kernel
theorem d_L_1062 : decode code 1062 = .ok (.ireturn, 1) := by decide +kernel
theorem d_L_1063 : decode code 1063 = .ok (.aload_n 1, 1) := by decide +kernel
theorem d_L_1064 : decode code 1064 = .ok (.aload_n 0, 1) := by decide +kernel
theorem d_L_1065 : decode code 1065 = .ok (.iload_n 3, 1) := by decide +kernel
theorem d_L_1066 : decode code 1066 = .ok (.iconst 1, 1) := by decide +kernel
theorem d_L_1067 : decode code 1067 = .ok (.iadd, 1) := by decide +kernel
theorem d_L_1068 : decode code 1068 = .ok (.iaload, 1) := by decide +kernel
theorem d_L_1069 : decode code 1069 = .ok (.invokevirtual 129, 3) := by decide +kernel
theorem d_L_1072 : decode code 1072 = .ok (.aload_n 2, 1) := by decide +kernel
theorem d_L_1073 : decode code 1073 = .ok (.aload_n 0, 1) := by decide +kernel
theorem d_L_1074 : decode code 1074 = .ok (.iload_n 3, 1) := by decide +kernel
theorem d_L_1075 : decode code 1075 = .ok (.iconst 1, 1) := by decide +kernel
theorem d_L_1076 : decode code 1076 = .ok (.iadd, 1) := by decide +kernel
theorem d_L_1077 : decode code 1077 = .ok (.iaload, 1) := by decide +kernel
theorem d_L_1078 : decode code 1078 = .ok (.invokevirtual 132, 3) := by decide +kernel
theorem d_L_1081 : decode code 1081 = .ok (.if_icmp .eq 631, 3) := by decide +kernel
theorem d_L_1084 : decode code 1084 = .ok (.iconst 0, 1) := by decide +kernel
theorem d_L_1085 : decode code 1085 = .ok (.ireturn, 1) := by decide +kernel
theorem d_L_1086 : decode code 1086 = .ok (.aload_n 1, 1) := by decide +kernel
theorem d_L_1087 : decode code 1087 = .ok (.aload_n 0, 1) := by decide +kernel
theorem d_L_1088 : decode code 1088 = .ok (.iload_n 3, 1) := by decide +kernel
theorem d_L_1089 : decode code 1089 = .ok (.iconst 1, 1) := by decide +kernel
theorem d_L_1090 : decode code 1090 = .ok (.iadd, 1) := by decide +kernel
theorem d_L_1091 : decode code 1091 = .ok (.iaload, 1) := by decide +kernel
theorem d_L_1092 : decode code 1092 = .ok (.aload_n 0, 1) := by decide +kernel
theorem d_L_1093 : decode code 1093 = .ok (.iload_n 3, 1) := by decide +kernel
theorem d_L_1094 : decode code 1094 = .ok (.iconst 2, 1) := by decide +kernel
theorem d_L_1095 : decode code 1095 = .ok (.iadd, 1) := by decide +kernel
theorem d_L_1096 : decode code 1096 = .ok (.iaload, 1) := by decide +kernel
theorem d_L_1097 : decode code 1097 = .ok (.aload_n 0, 1) := by decide +kernel
theorem d_L_1098 : decode code 1098 = .ok (.iload_n 3, 1) := by decide +kernel
theorem d_L_1099 : decode code 1099 = .ok (.iconst 3, 1) := by decide +kernel
theorem d_L_1100 : decode code 1100 = .ok (.iadd, 1) := by decide +kernel
theorem d_L_1101 : decode code 1101 = .ok (.iaload, 1) := by decide +kernel
theorem d_L_1102 : decode code 1102 = .ok (.invokevirtual 133, 3) := by decide +kernel
theorem d_L_1105 : decode code 1105 = .ok (.aload_n 2, 1) := by decide +kernel
theorem d_L_1106 : decode code 1106 = .ok (.aload_n 0, 1) := by decide +kernel
theorem d_L_1107 : decode code 1107 = .ok (.iload_n 3, 1) := by decide +kernel
theorem d_L_1108 : decode code 1108 = .ok (.iconst 1, 1) := by decide +kernel
theorem d_L_1109 : decode code 1109 = .ok (.iadd, 1) := by decide +kernel
theorem d_L_1110 : decode code 1110 = .ok (.iaload, 1) := by decide +kernel
theorem d_L_1111 : decode code 1111 = .ok (.aload_n 0, 1) := by decide +kernel
theorem d_L_1112 : decode code 1112 = .ok (.iload_n 3, 1) := by decide +kernel
theorem d_L_1113 : decode code 1113 = .ok (.iconst 2, 1) := by decide +kernel
theorem d_L_1114 : decode code 1114 = .ok (.iadd, 1) := by decide +kernel
theorem d_L_1115 : decode code 1115 = .ok (.iaload, 1) := by decide +kernel
theorem d_L_1116 : decode code 1116 = .ok (.aload_n 0, 1) := by decide +kernel
theorem d_L_1117 : decode code 1117 = .ok (.iload_n 3, 1) := by decide +kernel
theorem d_L_1118 : decode code 1118 = .ok (.iconst 3, 1) := by decide +kernel
theorem d_L_1119 : decode code 1119 = .ok (.iadd, 1) := by decide +kernel
theorem d_L_1120 : decode code 1120 = .ok (.iaload, 1) := by decide +kernel
theorem d_L_1121 : decode code 1121 = .ok (.invokevirtual 136, 3) := by decide +kernel
theorem d_L_1124 : decode code 1124 = .ok (.if_icmp .eq 588, 3) := by decide +kernel
theorem d_L_1127 : decode code 1127 = .ok (.iconst 0, 1) := by decide +kernel
theorem d_L_1128 : decode code 1128 = .ok (.ireturn, 1) := by decide +kernel
theorem d_L_1129 : decode code 1129 = .ok (.aload_n 1, 1) := by decide +kernel
theorem d_L_1130 : decode code 1130 = .ok (.aload_n 0, 1) := by decide +kernel
theorem d_L_1131 : decode code 1131 = .ok (.iload_n 3, 1) := by decide +kernel
theorem d_L_1132 : decode code 1132 = .ok (.iconst 1, 1) := by decide +kernel
theorem d_L_1133 : decode code 1133 = .ok (.iadd, 1) := by decide +kernel
theorem d_L_1134 : decode code 1134 = .ok (.iaload, 1) := by decide +kernel
theorem d_L_1135 : decode code 1135 = .ok (.aload_n 0, 1) := by decide +kernel
theorem d_L_1136 : decode code 1136 = .ok (.iload_n 3, 1) := by decide +kernel
theorem d_L_1137 : decode code 1137 = .ok (.iconst 2, 1) := by decide +kernel
theorem d_L_1138 : decode code 1138 = .ok (.iadd, 1) := by decide +kernel
theorem d_L_1139 : decode code 1139 = .ok (.iaload, 1) := by decide +kernel
theorem d_L_1140 : decode code 1140 = .ok (.aload_n 0, 1) := by decide +kernel
theorem d_L_1141 : decode code 1141 = .ok (.iload_n 3, 1) := by decide +kernel
theorem d_L_1142 : decode code 1142 = .ok (.iconst 3, 1) := by decide +kernel
theorem d_L_1143 : decode code 1143 = .ok (.iadd, 1) := by decide +kernel
theorem d_L_1144 : decode code 1144 = .ok (.iaload, 1) := by decide +kernel
theorem d_L_1145 : decode code 1145 = .ok (.invokevirtual 137, 3) := by decide +kernel
theorem d_L_1148 : decode code 1148 = .ok (.aload_n 2, 1) := by decide +kernel
theorem d_L_1149 : decode code 1149 = .ok (.aload_n 0, 1) := by decide +kernel
theorem d_L_1150 : decode code 1150 = .ok (.iload_n 3, 1) := by decide +kernel
theorem d_L_1151 : decode code 1151 = .ok (.iconst 1, 1) := by decide +kernel
theorem d_L_1152 : decode code 1152 = .ok (.iadd, 1) := by decide +kernel
theorem d_L_1153 : decode code 1153 = .ok (.iaload, 1) := by decide +kernel
theorem d_L_1154 : decode code 1154 = .ok (.aload_n 0, 1) := by decide +kernel
theorem d_L_1155 : decode code 1155 = .ok (.iload_n 3, 1) := by decide +kernel
theorem d_L_1156 : decode code 1156 = .ok (.iconst 2, 1) := by decide +kernel
theorem d_L_1157 : decode code 1157 = .ok (.iadd, 1) := by decide +kernel
theorem d_L_1158 : decode code 1158 = .ok (.iaload, 1) := by decide +kernel
theorem d_L_1159 : decode code 1159 = .ok (.aload_n 0, 1) := by decide +kernel
theorem d_L_1160 : decode code 1160 = .ok (.iload_n 3, 1) := by decide +kernel
theorem d_L_1161 : decode code 1161 = .ok (.iconst 3, 1) := by decide +kernel
theorem d_L_1162 : decode code 1162 = .ok (.iadd, 1) := by decide +kernel
theorem d_L_1163 : decode code 1163 = .ok (.iaload, 1) := by decide +kernel
theorem d_L_1164 : decode code 1164 = .ok (.invokevirtual 141, 3) := by decide +kernel
theorem d_L_1167 : decode code 1167 = .ok (.lcmp, 1) := by decide +kernel
theorem d_L_1168 : decode code 1168 = .ok (.ifCond .eq 544, 3) := by decide +kernel
theorem d_L_1171 : decode code 1171 = .ok (.iconst 0, 1) := by decide +kernel
theorem d_L_1172 : decode code 1172 = .ok (.ireturn, 1) := by decide +kernel
theorem d_L_1173 : decode code 1173 = .ok (.aload_n 1, 1) := by decide +kernel
theorem d_L_1174 : decode code 1174 = .ok (.aload_n 0, 1) := by decide +kernel
theorem d_L_1175 : decode code 1175 = .ok (.iload_n 3, 1) := by decide +kernel
theorem d_L_1176 : decode code 1176 = .ok (.iconst 1, 1) := by decide +kernel
theorem d_L_1177 : decode code 1177 = .ok (.iadd, 1) := by decide +kernel
theorem d_L_1178 : decode code 1178 = .ok (.iaload, 1) := by decide +kernel
theorem d_L_1179 : decode code 1179 = .ok (.aload_n 0, 1) := by decide +kernel
theorem d_L_1180 : decode code 1180 = .ok (.iload_n 3, 1) := by decide +kernel
theorem d_L_1181 : decode code 1181 = .ok (.iconst 2, 1) := by decide +kernel
theorem d_L_1182 : decode code 1182 = .ok (.iadd, 1) := by decide +kernel
theorem d_L_1183 : decode code 1183 = .ok (.iaload, 1) := by decide +kernel
theorem d_L_1184 : decode code 1184 = .ok (.invokevirtual 142, 3) := by decide +kernel
theorem d_L_1187 : decode code 1187 = .ok (.aload_n 2, 1) := by decide +kernel
theorem d_L_1188 : decode code 1188 = .ok (.aload_n 0, 1) := by decide +kernel
theorem d_L_1189 : decode code 1189 = .ok (.iload_n 3, 1) := by decide +kernel
theorem d_L_1190 : decode code 1190 = .ok (.iconst 1, 1) := by decide +kernel
theorem d_L_1191 : decode code 1191 = .ok (.iadd, 1) := by decide +kernel
theorem d_L_1192 : decode code 1192 = .ok (.iaload, 1) := by decide +kernel
theorem d_L_1193 : decode code 1193 = .ok (.aload_n 0, 1) := by decide +kernel
theorem d_L_1194 : decode code 1194 = .ok (.iload_n 3, 1) := by decide +kernel
theorem d_L_1195 : decode code 1195 = .ok (.iconst 2, 1) := by decide +kernel
theorem d_L_1196 : decode code 1196 = .ok (.iadd, 1) := by decide +kernel
theorem d_L_1197 : decode code 1197 = .ok (.iaload, 1) := by decide +kernel
theorem d_L_1198 : decode code 1198 = .ok (.invokevirtual 146, 3) := by decide +kernel
theorem d_L_1201 : decode code 1201 = .ok (.lcmp, 1) := by decide +kernel
theorem d_L_1202 : decode code 1202 = .ok (.ifCond .eq 510, 3) := by decide +kernel
theorem d_L_1205 : decode code 1205 = .ok (.iconst 0, 1) := by decide +kernel
theorem d_L_1206 : decode code 1206 = .ok (.ireturn, 1) := by decide +kernel
theorem d_L_1207 : decode code 1207 = .ok (.aload_n 1, 1) := by decide +kernel
theorem d_L_1208 : decode code 1208 = .ok (.aload_n 0, 1) := by decide +kernel
theorem d_L_1209 : decode code 1209 = .ok (.iload_n 3, 1) := by decide +kernel
theorem d_L_1210 : decode code 1210 = .ok (.iconst 1, 1) := by decide +kernel
theorem d_L_1211 : decode code 1211 = .ok (.iadd, 1) := by decide +kernel
theorem d_L_1212 : decode code 1212 = .ok (.iaload, 1) := by decide +kernel
theorem d_L_1213 : decode code 1213 = .ok (.aload_n 0, 1) := by decide +kernel
theorem d_L_1214 : decode code 1214 = .ok (.iload_n 3, 1) := by decide +kernel
theorem d_L_1215 : decode code 1215 = .ok (.iconst 2, 1) := by decide +kernel
theorem d_L_1216 : decode code 1216 = .ok (.iadd, 1) := by decide +kernel
theorem d_L_1217 : decode code 1217 = .ok (.iaload, 1) := by decide +kernel
theorem d_L_1218 : decode code 1218 = .ok (.invokevirtual 147, 3) := by decide +kernel
theorem d_L_1221 : decode code 1221 = .ok (.aload_n 2, 1) := by decide +kernel
theorem d_L_1222 : decode code 1222 = .ok (.aload_n 0, 1) := by decide +kernel
theorem d_L_1223 : decode code 1223 = .ok (.iload_n 3, 1) := by decide +kernel
theorem d_L_1224 : decode code 1224 = .ok (.iconst 1, 1) := by decide +kernel
theorem d_L_1225 : decode code 1225 = .ok (.iadd, 1) := by decide +kernel
theorem d_L_1226 : decode code 1226 = .ok (.iaload, 1) := by decide +kernel
theorem d_L_1227 : decode code 1227 = .ok (.aload_n 0, 1) := by decide +kernel
theorem d_L_1228 : decode code 1228 = .ok (.iload_n 3, 1) := by decide +kernel
theorem d_L_1229 : decode code 1229 = .ok (.iconst 2, 1) := by decide +kernel
theorem d_L_1230 : decode code 1230 = .ok (.iadd, 1) := by decide +kernel
theorem d_L_1231 : decode code 1231 = .ok (.iaload, 1) := by decide +kernel
theorem d_L_1232 : decode code 1232 = .ok (.invokevirtual 150, 3) := by decide +kernel
theorem d_L_1235 : decode code 1235 = .ok (.if_icmp .eq 477, 3) := by decide +kernel
theorem d_L_1238 : decode code 1238 = .ok (.iconst 0, 1) := by decide +kernel
theorem d_L_1239 : decode code 1239 = .ok (.ireturn, 1) := by decide +kernel
theorem d_L_1240 : decode code 1240 = .ok (.aload_n 1, 1) := by decide +kernel
theorem d_L_1241 : decode code 1241 = .ok (.aload_n 0, 1) := by decide +kernel
theorem d_L_1242 : decode code 1242 = .ok (.iload_n 3, 1) := by decide +kernel
theorem d_L_1243 : decode code 1243 = .ok (.iconst 1, 1) := by decide +kernel
theorem d_L_1244 : decode code 1244 = .ok (.iadd, 1) := by decide +kernel
theorem d_L_1245 : decode code 1245 = .ok (.iaload, 1) := by decide +kernel
theorem d_L_1246 : decode code 1246 = .ok (.aload_n 0, 1) := by decide +kernel
theorem d_L_1247 : decode code 1247 = .ok (.iload_n 3, 1) := by decide +kernel
theorem d_L_1248 : decode code 1248 = .ok (.iconst 2, 1) := by decide +kernel
theorem d_L_1249 : decode code 1249 = .ok (.iadd, 1) := by decide +kernel
theorem d_L_1250 : decode code 1250 = .ok (.iaload, 1) := by decide +kernel
theorem d_L_1251 : decode code 1251 = .ok (.invokevirtual 151, 3) := by decide +kernel
theorem d_L_1254 : decode code 1254 = .ok (.aload_n 2, 1) := by decide +kernel
theorem d_L_1255 : decode code 1255 = .ok (.aload_n 0, 1) := by decide +kernel
theorem d_L_1256 : decode code 1256 = .ok (.iload_n 3, 1) := by decide +kernel
theorem d_L_1257 : decode code 1257 = .ok (.iconst 1, 1) := by decide +kernel
theorem d_L_1258 : decode code 1258 = .ok (.iadd, 1) := by decide +kernel
theorem d_L_1259 : decode code 1259 = .ok (.iaload, 1) := by decide +kernel
theorem d_L_1260 : decode code 1260 = .ok (.aload_n 0, 1) := by decide +kernel
theorem d_L_1261 : decode code 1261 = .ok (.iload_n 3, 1) := by decide +kernel
theorem d_L_1262 : decode code 1262 = .ok (.iconst 2, 1) := by decide +kernel
theorem d_L_1263 : decode code 1263 = .ok (.iadd, 1) := by decide +kernel
theorem d_L_1264 : decode code 1264 = .ok (.iaload, 1) := by decide +kernel
theorem d_L_1265 : decode code 1265 = .ok (.invokevirtual 154, 3) := by decide +kernel
theorem d_L_1268 : decode code 1268 = .ok (.if_icmp .eq 444, 3) := by decide +kernel
theorem d_L_1271 : decode code 1271 = .ok (.iconst 0, 1) := by decide +kernel
theorem d_L_1272 : decode code 1272 = .ok (.ireturn, 1) := by decide +kernel
theorem d_L_1273 : decode code 1273 = .ok (.aload_n 1, 1) := by decide +kernel
theorem d_L_1274 : decode code 1274 = .ok (.aload_n 0, 1) := by decide +kernel
theorem d_L_1275 : decode code 1275 = .ok (.iload_n 3, 1) := by decide +kernel
theorem d_L_1276 : decode code 1276 = .ok (.iconst 1, 1) := by decide +kernel
theorem d_L_1277 : decode code 1277 = .ok (.iadd, 1) := by decide +kernel
theorem d_L_1278 : decode code 1278 = .ok (.iaload, 1) := by decide +kernel
theorem d_L_1279 : decode code 1279 = .ok (.aload_n 0, 1) := by decide +kernel
theorem d_L_1280 : decode code 1280 = .ok (.iload_n 3, 1) := by decide +kernel
theorem d_L_1281 : decode code 1281 = .ok (.iconst 2, 1) := by decide +kernel
theorem d_L_1282 : decode code 1282 = .ok (.iadd, 1) := by decide +kernel
theorem d_L_1283 : decode code 1283 = .ok (.iaload, 1) := by decide +kernel
theorem d_L_1284 : decode code 1284 = .ok (.aload_n 0, 1) := by decide +kernel
theorem d_L_1285 : decode code 1285 = .ok (.iload_n 3, 1) := by decide +kernel
theorem d_L_1286 : decode code 1286 = .ok (.iconst 3, 1) := by decide +kernel
theorem d_L_1287 : decode code 1287 = .ok (.iadd, 1) := by decide +kernel
theorem d_L_1288 : decode code 1288 = .ok (.iaload, 1) := by decide +kernel
theorem d_L_1289 : decode code 1289 = .ok (.invokevirtual 155, 3) := by decide +kernel
theorem d_L_1292 : decode code 1292 = .ok (.aload_n 2, 1) := by decide +kernel
theorem d_L_1293 : decode code 1293 = .ok (.aload_n 0, 1) := by decide +kernel
theorem d_L_1294 : decode code 1294 = .ok (.iload_n 3, 1) := by decide +kernel
theorem d_L_1295 : decode code 1295 = .ok (.iconst 1, 1) := by decide +kernel
theorem d_L_1296 : decode code 1296 = .ok (.iadd, 1) := by decide +kernel
theorem d_L_1297 : decode code 1297 = .ok (.iaload, 1) := by decide +kernel
theorem d_L_1298 : decode code 1298 = .ok (.aload_n 0, 1) := by decide +kernel
theorem d_L_1299 : decode code 1299 = .ok (.iload_n 3, 1) := by decide +kernel
theorem d_L_1300 : decode code 1300 = .ok (.iconst 2, 1) := by decide +kernel
theorem d_L_1301 : decode code 1301 = .ok (.iadd, 1) := by decide +kernel
theorem d_L_1302 : decode code 1302 = .ok (.iaload, 1) := by decide +kernel
theorem d_L_1303 : decode code 1303 = .ok (.aload_n 0, 1) := by decide +kernel
theorem d_L_1304 : decode code 1304 = .ok (.iload_n 3, 1) := by decide +kernel
theorem d_L_1305 : decode code 1305 = .ok (.iconst 3, 1) := by decide +kernel
theorem d_L_1306 : decode code 1306 = .ok (.iadd, 1) := by decide +kernel
theorem d_L_1307 : decode code 1307 = .ok (.iaload, 1) := by decide +kernel
theorem d_L_1308 : decode code 1308 = .ok (.invokevirtual 158, 3) := by decide +kernel
theorem d_L_1311 : decode code 1311 = .ok (.if_icmp .eq 401, 3) := by decide +kernel
theorem d_L_1314 : decode code 1314 = .ok (.iconst 0, 1) := by decide +kernel
theorem d_L_1315 : decode code 1315 = .ok (.ireturn, 1) := by decide +kernel
theorem d_L_1316 : decode code 1316 = .ok (.aload_n 1, 1) := by decide +kernel
theorem d_L_1317 : decode code 1317 = .ok (.aload_n 0, 1) := by decide +kernel
theorem d_L_1318 : decode code 1318 = .ok (.iload_n 3, 1) := by decide +kernel
theorem d_L_1319 : decode code 1319 = .ok (.iconst 1, 1) := by decide +kernel
theorem d_L_1320 : decode code 1320 = .ok (.iadd, 1) := by decide +kernel
theorem d_L_1321 : decode code 1321 = .ok (.iaload, 1) := by decide +kernel
theorem d_L_1322 : decode code 1322 = .ok (.invokevirtual 159, 3) := by decide +kernel
theorem d_L_1325 : decode code 1325 = .ok (.aload_n 2, 1) := by decide +kernel
theorem d_L_1326 : decode code 1326 = .ok (.aload_n 0, 1) := by decide +kernel
theorem d_L_1327 : decode code 1327 = .ok (.iload_n 3, 1) := by decide +kernel
theorem d_L_1328 : decode code 1328 = .ok (.iconst 1, 1) := by decide +kernel
theorem d_L_1329 : decode code 1329 = .ok (.iadd, 1) := by decide +kernel
theorem d_L_1330 : decode code 1330 = .ok (.iaload, 1) := by decide +kernel
theorem d_L_1331 : decode code 1331 = .ok (.invokevirtual 162, 3) := by decide +kernel
theorem d_L_1334 : decode code 1334 = .ok (.if_icmp .eq 378, 3) := by decide +kernel
theorem d_L_1337 : decode code 1337 = .ok (.iconst 0, 1) := by decide +kernel
theorem d_L_1338 : decode code 1338 = .ok (.ireturn, 1) := by decide +kernel
theorem d_L_1339 : decode code 1339 = .ok (.aload_n 1, 1) := by decide +kernel
theorem d_L_1340 : decode code 1340 = .ok (.aload_n 0, 1) := by decide +kernel
theorem d_L_1341 : decode code 1341 = .ok (.iload_n 3, 1) := by decide +kernel
theorem d_L_1342 : decode code 1342 = .ok (.iconst 1, 1) := by decide +kernel
theorem d_L_1343 : decode code 1343 = .ok (.iadd, 1) := by decide +kernel
theorem d_L_1344 : decode code 1344 = .ok (.iaload, 1) := by decide +kernel
theorem d_L_1345 : decode code 1345 = .ok (.aload_n 0, 1) := by decide +kernel
theorem d_L_1346 : decode code 1346 = .ok (.iload_n 3, 1) := by decide +kernel
theorem d_L_1347 : decode code 1347 = .ok (.iconst 2, 1) := by decide +kernel
theorem d_L_1348 : decode code 1348 = .ok (.iadd, 1) := by decide +kernel
theorem d_L_1349 : decode code 1349 = .ok (.iaload, 1) := by decide +kernel
theorem d_L_1350 : decode code 1350 = .ok (.aload_n 0, 1) := by decide +kernel
theorem d_L_1351 : decode code 1351 = .ok (.iload_n 3, 1) := by decide +kernel
theorem d_L_1352 : decode code 1352 = .ok (.iconst 3, 1) := by decide +kernel
theorem d_L_1353 : decode code 1353 = .ok (.iadd, 1) := by decide +kernel
theorem d_L_1354 : decode code 1354 = .ok (.iaload, 1) := by decide +kernel
theorem d_L_1355 : decode code 1355 = .ok (.aload_n 0, 1) := by decide +kernel
theorem d_L_1356 : decode code 1356 = .ok (.iload_n 3, 1) := by decide +kernel
theorem d_L_1357 : decode code 1357 = .ok (.iconst 4, 1) := by decide +kernel
theorem d_L_1358 : decode code 1358 = .ok (.iadd, 1) := by decide +kernel
theorem d_L_1359 : decode code 1359 = .ok (.iaload, 1) := by decide +kernel
theorem d_L_1360 : decode code 1360 = .ok (.invokevirtual 163, 3) := by decide +kernel
theorem d_L_1363 : decode code 1363 = .ok (.aload_n 2, 1) := by decide +kernel
theorem d_L_1364 : decode code 1364 = .ok (.aload_n 0, 1) := by decide +kernel
theorem d_L_1365 : decode code 1365 = .ok (.iload_n 3, 1) := by decide +kernel
theorem d_L_1366 : decode code 1366 = .ok (.iconst 1, 1) := by decide +kernel
theorem d_L_1367 : decode code 1367 = .ok (.iadd, 1) := by decide +kernel
theorem d_L_1368 : decode code 1368 = .ok (.iaload, 1) := by decide +kernel
theorem d_L_1369 : decode code 1369 = .ok (.aload_n 0, 1) := by decide +kernel
theorem d_L_1370 : decode code 1370 = .ok (.iload_n 3, 1) := by decide +kernel
theorem d_L_1371 : decode code 1371 = .ok (.iconst 2, 1) := by decide +kernel
theorem d_L_1372 : decode code 1372 = .ok (.iadd, 1) := by decide +kernel
theorem d_L_1373 : decode code 1373 = .ok (.iaload, 1) := by decide +kernel
theorem d_L_1374 : decode code 1374 = .ok (.aload_n 0, 1) := by decide +kernel
theorem d_L_1375 : decode code 1375 = .ok (.iload_n 3, 1) := by decide +kernel
theorem d_L_1376 : decode code 1376 = .ok (.iconst 3, 1) := by decide +kernel
theorem d_L_1377 : decode code 1377 = .ok (.iadd, 1) := by decide +kernel
theorem d_L_1378 : decode code 1378 = .ok (.iaload, 1) := by decide +kernel
theorem d_L_1379 : decode code 1379 = .ok (.aload_n 0, 1) := by decide +kernel
theorem d_L_1380 : decode code 1380 = .ok (.iload_n 3, 1) := by decide +kernel
theorem d_L_1381 : decode code 1381 = .ok (.iconst 4, 1) := by decide +kernel
theorem d_L_1382 : decode code 1382 = .ok (.iadd, 1) := by decide +kernel
theorem d_L_1383 : decode code 1383 = .ok (.iaload, 1) := by decide +kernel
theorem d_L_1384 : decode code 1384 = .ok (.invokevirtual 166, 3) := by decide +kernel
theorem d_L_1387 : decode code 1387 = .ok (.if_icmp .eq 325, 3) := by decide +kernel
theorem d_L_1390 : decode code 1390 = .ok (.iconst 0, 1) := by decide +kernel
theorem d_L_1391 : decode code 1391 = .ok (.ireturn, 1) := by decide +kernel
theorem d_L_1392 : decode code 1392 = .ok (.aload_n 1, 1) := by decide +kernel
theorem d_L_1393 : decode code 1393 = .ok (.aload_n 0, 1) := by decide +kernel
theorem d_L_1394 : decode code 1394 = .ok (.iload_n 3, 1) := by decide +kernel
theorem d_L_1395 : decode code 1395 = .ok (.iconst 1, 1) := by decide +kernel
theorem d_L_1396 : decode code 1396 = .ok (.iadd, 1) := by decide +kernel
theorem d_L_1397 : decode code 1397 = .ok (.iaload, 1) := by decide +kernel
theorem d_L_1398 : decode code 1398 = .ok (.aload_n 0, 1) := by decide +kernel
theorem d_L_1399 : decode code 1399 = .ok (.iload_n 3, 1) := by decide +kernel
theorem d_L_1400 : decode code 1400 = .ok (.iconst 2, 1) := by decide +kernel
theorem d_L_1401 : decode code 1401 = .ok (.iadd, 1) := by decide +kernel
theorem d_L_1402 : decode code 1402 = .ok (.iaload, 1) := by decide +kernel
theorem d_L_1403 : decode code 1403 = .ok (.aload_n 0, 1) := by decide +kernel
theorem d_L_1404 : decode code 1404 = .ok (.iload_n 3, 1) := by decide +kernel
theorem d_L_1405 : decode code 1405 = .ok (.iconst 3, 1) := by decide +kernel
theorem d_L_1406 : decode code 1406 = .ok (.iadd, 1) := by decide +kernel
theorem d_L_1407 : decode code 1407 = .ok (.iaload, 1) := by decide +kernel
theorem d_L_1408 : decode code 1408 = .ok (.invokevirtual 167, 3) := by decide +kernel
theorem d_L_1411 : decode code 1411 = .ok (.aload_n 2, 1) := by decide +kernel
theorem d_L_1412 : decode code 1412 = .ok (.aload_n 0, 1) := by decide +kernel
theorem d_L_1413 : decode code 1413 = .ok (.iload_n 3, 1) := by decide +kernel
theorem d_L_1414 : decode code 1414 = .ok (.iconst 1, 1) := by decide +kernel
theorem d_L_1415 : decode code 1415 = .ok (.iadd, 1) := by decide +kernel
theorem d_L_1416 : decode code 1416 = .ok (.iaload, 1) := by decide +kernel
theorem d_L_1417 : decode code 1417 = .ok (.aload_n 0, 1) := by decide +kernel
theorem d_L_1418 : decode code 1418 = .ok (.iload_n 3, 1) := by decide +kernel
theorem d_L_1419 : decode code 1419 = .ok (.iconst 2, 1) := by decide +kernel
theorem d_L_1420 : decode code 1420 = .ok (.iadd, 1) := by decide +kernel
theorem d_L_1421 : decode code 1421 = .ok (.iaload, 1) := by decide +kernel
theorem d_L_1422 : decode code 1422 = .ok (.aload_n 0, 1) := by decide +kernel
theorem d_L_1423 : decode code 1423 = .ok (.iload_n 3, 1) := by decide +kernel
theorem d_L_1424 : decode code 1424 = .ok (.iconst 3, 1) := by decide +kernel
theorem d_L_1425 : decode code 1425 = .ok (.iadd, 1) := by decide +kernel
theorem d_L_1426 : decode code 1426 = .ok (.iaload, 1) := by decide +kernel
theorem d_L_1427 : decode code 1427 = .ok (.invokevirtual 170, 3) := by decide +kernel
theorem d_L_1430 : decode code 1430 = .ok (.if_icmp .eq 282, 3) := by decide +kernel
theorem d_L_1433 : decode code 1433 = .ok (.iconst 0, 1) := by decide +kernel
theorem d_L_1434 : decode code 1434 = .ok (.ireturn, 1) := by decide +kernel
theorem d_L_1435 : decode code 1435 = .ok (.aload_n 1, 1) := by decide +kernel
theorem d_L_1436 : decode code 1436 = .ok (.aload_n 0, 1) := by decide +kernel
theorem d_L_1437 : decode code 1437 = .ok (.iload_n 3, 1) := by decide +kernel
theorem d_L_1438 : decode code 1438 = .ok (.iconst 1, 1) := by decide +kernel
theorem d_L_1439 : decode code 1439 = .ok (.iadd, 1) := by decide +kernel
theorem d_L_1440 : decode code 1440 = .ok (.iaload, 1) := by decide +kernel
theorem d_L_1441 : decode code 1441 = .ok (.aload_n 0, 1) := by decide +kernel
theorem d_L_1442 : decode code 1442 = .ok (.iload_n 3, 1) := by decide +kernel
theorem d_L_1443 : decode code 1443 = .ok (.iconst 2, 1) := by decide +kernel
theorem d_L_1444 : decode code 1444 = .ok (.iadd, 1) := by decide +kernel
theorem d_L_1445 : decode code 1445 = .ok (.iaload, 1) := by decide +kernel
theorem d_L_1446 : decode code 1446 = .ok (.aload_n 0, 1) := by decide +kernel
theorem d_L_1447 : decode code 1447 = .ok (.iload_n 3, 1) := by decide +kernel
theorem d_L_1448 : decode code 1448 = .ok (.iconst 3, 1) := by decide +kernel
theorem d_L_1449 : decode code 1449 = .ok (.iadd, 1) := by decide +kernel
theorem d_L_1450 : decode code 1450 = .ok (.iaload, 1) := by decide +kernel
theorem d_L_1451 : decode code 1451 = .ok (.invokevirtual 171, 3) := by decide +kernel
theorem d_L_1454 : decode code 1454 = .ok (.aload_n 2, 1) := by decide +kernel
theorem d_L_1455 : decode code 1455 = .ok (.aload_n 0, 1) := by decide +kernel
theorem d_L_1456 : decode code 1456 = .ok (.iload_n 3, 1) := by decide +kernel
theorem d_L_1457 : decode code 1457 = .ok (.iconst 1, 1) := by decide +kernel
theorem d_L_1458 : decode code 1458 = .ok (.iadd, 1) := by decide +kernel
theorem d_L_1459 : decode code 1459 = .ok (.iaload, 1) := by decide +kernel
theorem d_L_1460 : decode code 1460 = .ok (.aload_n 0, 1) := by decide +kernel
theorem d_L_1461 : decode code 1461 = .ok (.iload_n 3, 1) := by decide +kernel
theorem d_L_1462 : decode code 1462 = .ok (.iconst 2, 1) := by decide +kernel
theorem d_L_1463 : decode code 1463 = .ok (.iadd, 1) := by decide +kernel
theorem d_L_1464 : decode code 1464 = .ok (.iaload, 1) := by decide +kernel
theorem d_L_1465 : decode code 1465 = .ok (.aload_n 0, 1) := by decide +kernel
theorem d_L_1466 : decode code 1466 = .ok (.iload_n 3, 1) := by decide +kernel
theorem d_L_1467 : decode code 1467 = .ok (.iconst 3, 1) := by decide +kernel
theorem d_L_1468 : decode code 1468 = .ok (.iadd, 1) := by decide +kernel
theorem d_L_1469 : decode code 1469 = .ok (.iaload, 1) := by decide +kernel
theorem d_L_1470 : decode code 1470 = .ok (.invokevirtual 174, 3) := by decide +kernel
theorem d_L_1473 : decode code 1473 = .ok (.if_icmp .eq 239, 3) := by decide +kernel
theorem d_L_1476 : decode code 1476 = .ok (.iconst 0, 1) := by decide +kernel
theorem d_L_1477 : decode code 1477 = .ok (.ireturn, 1) := by decide +kernel
theorem d_L_1478 : decode code 1478 = .ok (.aload_n 1, 1) := by decide +kernel
theorem d_L_1479 : decode code 1479 = .ok (.aload_n 0, 1) := by decide +kernel
theorem d_L_1480 : decode code 1480 = .ok (.iload_n 3, 1) := by decide +kernel
theorem d_L_1481 : decode code 1481 = .ok (.iconst 1, 1) := by decide +kernel
theorem d_L_1482 : decode code 1482 = .ok (.iadd, 1) := by decide +kernel
theorem d_L_1483 : decode code 1483 = .ok (.iaload, 1) := by decide +kernel
theorem d_L_1484 : decode code 1484 = .ok (.aload_n 0, 1) := by decide +kernel
theorem d_L_1485 : decode code 1485 = .ok (.iload_n 3, 1) := by decide +kernel
theorem d_L_1486 : decode code 1486 = .ok (.iconst 2, 1) := by decide +kernel
theorem d_L_1487 : decode code 1487 = .ok (.iadd, 1) := by decide +kernel
theorem d_L_1488 : decode code 1488 = .ok (.iaload, 1) := by decide +kernel
theorem d_L_1489 : decode code 1489 = .ok (.aload_n 0, 1) := by decide +kernel
theorem d_L_1490 : decode code 1490 = .ok (.iload_n 3, 1) := by decide +kernel
theorem d_L_1491 : decode code 1491 = .ok (.iconst 3, 1) := by decide +kernel
theorem d_L_1492 : decode code 1492 = .ok (.iadd, 1) := by decide +kernel
theorem d_L_1493 : decode code 1493 = .ok (.iaload, 1) := by decide +kernel
theorem d_L_1494 : decode code 1494 = .ok (.invokevirtual 175, 3) := by decide +kernel
theorem d_L_1497 : decode code 1497 = .ok (.aload_n 2, 1) := by decide +kernel
theorem d_L_1498 : decode code 1498 = .ok (.aload_n 0, 1) := by decide +kernel
theorem d_L_1499 : decode code 1499 = .ok (.iload_n 3, 1) := by decide +kernel
theorem d_L_1500 : decode code 1500 = .ok (.iconst 1, 1) := by decide +kernel
theorem d_L_1501 : decode code 1501 = .ok (.iadd, 1) := by decide +kernel
theorem d_L_1502 : decode code 1502 = .ok (.iaload, 1) := by decide +kernel
theorem d_L_1503 : decode code 1503 = .ok (.aload_n 0, 1) := by decide +kernel
theorem d_L_1504 : decode code 1504 = .ok (.iload_n 3, 1) := by decide +kernel
theorem d_L_1505 : decode code 1505 = .ok (.iconst 2, 1) := by decide +kernel
theorem d_L_1506 : decode code 1506 = .ok (.iadd, 1) := by decide +kernel
theorem d_L_1507 : decode code 1507 = .ok (.iaload, 1) := by decide +kernel
theorem d_L_1508 : decode code 1508 = .ok (.aload_n 0, 1) := by decide +kernel
theorem d_L_1509 : decode code 1509 = .ok (.iload_n 3, 1) := by decide +kernel
theorem d_L_1510 : decode code 1510 = .ok (.iconst 3, 1) := by decide +kernel
theorem d_L_1511 : decode code 1511 = .ok (.iadd, 1) := by decide +kernel
theorem d_L_1512 : decode code 1512 = .ok (.iaload, 1) := by decide +kernel
theorem d_L_1513 : decode code 1513 = .ok (.invokevirtual 178, 3) := by decide +kernel
theorem d_L_1516 : decode code 1516 = .ok (.if_icmp .eq 196, 3) := by decide +kernel
theorem d_L_1519 : decode code 1519 = .ok (.iconst 0, 1) := by decide +kernel
theorem d_L_1520 : decode code 1520 = .ok (.ireturn, 1) := by decide +kernel
theorem d_L_1521 : decode code 1521 = .ok (.aload_n 1, 1) := by decide +kernel
theorem d_L_1522 : decode code 1522 = .ok (.aload_n 0, 1) := by decide +kernel
theorem d_L_1523 : decode code 1523 = .ok (.iload_n 3, 1) := by decide +kernel
theorem d_L_1524 : decode code 1524 = .ok (.iconst 1, 1) := by decide +kernel
theorem d_L_1525 : decode code 1525 = .ok (.iadd, 1) := by decide +kernel
theorem d_L_1526 : decode code 1526 = .ok (.iaload, 1) := by decide +kernel
theorem d_L_1527 : decode code 1527 = .ok (.aload_n 0, 1) := by decide +kernel
theorem d_L_1528 : decode code 1528 = .ok (.iload_n 3, 1) := by decide +kernel
theorem d_L_1529 : decode code 1529 = .ok (.iconst 2, 1) := by decide +kernel
theorem d_L_1530 : decode code 1530 = .ok (.iadd, 1) := by decide +kernel
theorem d_L_1531 : decode code 1531 = .ok (.iaload, 1) := by decide +kernel
theorem d_L_1532 : decode code 1532 = .ok (.aload_n 0, 1) := by decide +kernel
theorem d_L_1533 : decode code 1533 = .ok (.iload_n 3, 1) := by decide +kernel
theorem d_L_1534 : decode code 1534 = .ok (.iconst 3, 1) := by decide +kernel
theorem d_L_1535 : decode code 1535 = .ok (.iadd, 1) := by decide +kernel
theorem d_L_1536 : decode code 1536 = .ok (.iaload, 1) := by decide +kernel
theorem d_L_1537 : decode code 1537 = .ok (.invokevirtual 179, 3) := by decide +kernel
theorem d_L_1540 : decode code 1540 = .ok (.aload_n 2, 1) := by decide +kernel
theorem d_L_1541 : decode code 1541 = .ok (.aload_n 0, 1) := by decide +kernel
theorem d_L_1542 : decode code 1542 = .ok (.iload_n 3, 1) := by decide +kernel
theorem d_L_1543 : decode code 1543 = .ok (.iconst 1, 1) := by decide +kernel
theorem d_L_1544 : decode code 1544 = .ok (.iadd, 1) := by decide +kernel
theorem d_L_1545 : decode code 1545 = .ok (.iaload, 1) := by decide +kernel
theorem d_L_1546 : decode code 1546 = .ok (.aload_n 0, 1) := by decide +kernel
theorem d_L_1547 : decode code 1547 = .ok (.iload_n 3, 1) := by decide +kernel
theorem d_L_1548 : decode code 1548 = .ok (.iconst 2, 1) := by decide +kernel
theorem d_L_1549 : decode code 1549 = .ok (.iadd, 1) := by decide +kernel
theorem d_L_1550 : decode code 1550 = .ok (.iaload, 1) := by decide +kernel
theorem d_L_1551 : decode code 1551 = .ok (.aload_n 0, 1) := by decide +kernel
theorem d_L_1552 : decode code 1552 = .ok (.iload_n 3, 1) := by decide +kernel
theorem d_L_1553 : decode code 1553 = .ok (.iconst 3, 1) := by decide +kernel
theorem d_L_1554 : decode code 1554 = .ok (.iadd, 1) := by decide +kernel
theorem d_L_1555 : decode code 1555 = .ok (.iaload, 1) := by decide +kernel
theorem d_L_1556 : decode code 1556 = .ok (.invokevirtual 182, 3) := by decide +kernel
theorem d_L_1559 : decode code 1559 = .ok (.if_icmp .eq 153, 3) := by decide +kernel
theorem d_L_1562 : decode code 1562 = .ok (.iconst 0, 1) := by decide +kernel
theorem d_L_1563 : decode code 1563 = .ok (.ireturn, 1) := by decide +kernel
theorem d_L_1564 : decode code 1564 = .ok (.aload_n 1, 1) := by decide +kernel
theorem d_L_1565 : decode code 1565 = .ok (.aload_n 0, 1) := by decide +kernel
theorem d_L_1566 : decode code 1566 = .ok (.iload_n 3, 1) := by decide +kernel
theorem d_L_1567 : decode code 1567 = .ok (.iconst 1, 1) := by decide +kernel
theorem d_L_1568 : decode code 1568 = .ok (.iadd, 1) := by decide +kernel
theorem d_L_1569 : decode code 1569 = .ok (.iaload, 1) := by decide +kernel
theorem d_L_1570 : decode code 1570 = .ok (.aload_n 0, 1) := by decide +kernel
theorem d_L_1571 : decode code 1571 = .ok (.iload_n 3, 1) := by decide +kernel
theorem d_L_1572 : decode code 1572 = .ok (.iconst 2, 1) := by decide +kernel
theorem d_L_1573 : decode code 1573 = .ok (.iadd, 1) := by decide +kernel
theorem d_L_1574 : decode code 1574 = .ok (.iaload, 1) := by decide +kernel
theorem d_L_1575 : decode code 1575 = .ok (.invokevirtual 183, 3) := by decide +kernel
theorem d_L_1578 : decode code 1578 = .ok (.aload_n 2, 1) := by decide +kernel
theorem d_L_1579 : decode code 1579 = .ok (.aload_n 0, 1) := by decide +kernel
theorem d_L_1580 : decode code 1580 = .ok (.iload_n 3, 1) := by decide +kernel
theorem d_L_1581 : decode code 1581 = .ok (.iconst 1, 1) := by decide +kernel
theorem d_L_1582 : decode code 1582 = .ok (.iadd, 1) := by decide +kernel
theorem d_L_1583 : decode code 1583 = .ok (.iaload, 1) := by decide +kernel
theorem d_L_1584 : decode code 1584 = .ok (.aload_n 0, 1) := by decide +kernel
theorem d_L_1585 : decode code 1585 = .ok (.iload_n 3, 1) := by decide +kernel
theorem d_L_1586 : decode code 1586 = .ok (.iconst 2, 1) := by decide +kernel
theorem d_L_1587 : decode code 1587 = .ok (.iadd, 1) := by decide +kernel
theorem d_L_1588 : decode code 1588 = .ok (.iaload, 1) := by decide +kernel
theorem d_L_1589 : decode code 1589 = .ok (.invokevirtual 186, 3) := by decide +kernel
theorem d_L_1592 : decode code 1592 = .ok (.if_icmp .eq 120, 3) := by decide +kernel
theorem d_L_1595 : decode code 1595 = .ok (.iconst 0, 1) := by decide +kernel
theorem d_L_1596 : decode code 1596 = .ok (.ireturn, 1) := by decide +kernel
theorem d_L_1597 : decode code 1597 = .ok (.aload_n 1, 1) := by decide +kernel
theorem d_L_1598 : decode code 1598 = .ok (.aload_n 0, 1) := by decide +kernel
theorem d_L_1599 : decode code 1599 = .ok (.iload_n 3, 1) := by decide +kernel
theorem d_L_1600 : decode code 1600 = .ok (.iconst 1, 1) := by decide +kernel
theorem d_L_1601 : decode code 1601 = .ok (.iadd, 1) := by decide +kernel
theorem d_L_1602 : decode code 1602 = .ok (.iaload, 1) := by decide +kernel
theorem d_L_1603 : decode code 1603 = .ok (.aload_n 0, 1) := by decide +kernel
theorem d_L_1604 : decode code 1604 = .ok (.iload_n 3, 1) := by decide +kernel
theorem d_L_1605 : decode code 1605 = .ok (.iconst 2, 1) := by decide +kernel
theorem d_L_1606 : decode code 1606 = .ok (.iadd, 1) := by decide +kernel
theorem d_L_1607 : decode code 1607 = .ok (.iaload, 1) := by decide +kernel
theorem d_L_1608 : decode code 1608 = .ok (.aload_n 0, 1) := by decide +kernel
theorem d_L_1609 : decode code 1609 = .ok (.iload_n 3, 1) := by decide +kernel
theorem d_L_1610 : decode code 1610 = .ok (.iconst 3, 1) := by decide +kernel
theorem d_L_1611 : decode code 1611 = .ok (.iadd, 1) := by decide +kernel
theorem d_L_1612 : decode code 1612 = .ok (.iaload, 1) := by decide +kernel
theorem d_L_1613 : decode code 1613 = .ok (.invokevirtual 187, 3) := by decide +kernel
theorem d_L_1616 : decode code 1616 = .ok (.aload_n 2, 1) := by decide +kernel
theorem d_L_1617 : decode code 1617 = .ok (.aload_n 0, 1) := by decide +kernel
theorem d_L_1618 : decode code 1618 = .ok (.iload_n 3, 1) := by decide +kernel
theorem d_L_1619 : decode code 1619 = .ok (.iconst 1, 1) := by decide +kernel
theorem d_L_1620 : decode code 1620 = .ok (.iadd, 1) := by decide +kernel
theorem d_L_1621 : decode code 1621 = .ok (.iaload, 1) := by decide +kernel
theorem d_L_1622 : decode code 1622 = .ok (.aload_n 0, 1) := by decide +kernel
theorem d_L_1623 : decode code 1623 = .ok (.iload_n 3, 1) := by decide +kernel
theorem d_L_1624 : decode code 1624 = .ok (.iconst 2, 1) := by decide +kernel
theorem d_L_1625 : decode code 1625 = .ok (.iadd, 1) := by decide +kernel
theorem d_L_1626 : decode code 1626 = .ok (.iaload, 1) := by decide +kernel
theorem d_L_1627 : decode code 1627 = .ok (.aload_n 0, 1) := by decide +kernel
theorem d_L_1628 : decode code 1628 = .ok (.iload_n 3, 1) := by decide +kernel
theorem d_L_1629 : decode code 1629 = .ok (.iconst 3, 1) := by decide +kernel
theorem d_L_1630 : decode code 1630 = .ok (.iadd, 1) := by decide +kernel
theorem d_L_1631 : decode code 1631 = .ok (.iaload, 1) := by decide +kernel
theorem d_L_1632 : decode code 1632 = .ok (.invokevirtual 190, 3) := by decide +kernel
theorem d_L_1635 : decode code 1635 = .ok (.if_icmp .eq 77, 3) := by decide +kernel
theorem d_L_1638 : decode code 1638 = .ok (.iconst 0, 1) := by decide +kernel
theorem d_L_1639 : decode code 1639 = .ok (.ireturn, 1) := by decide +kernel
theorem d_L_1640 : decode code 1640 = .ok (.aload_n 1, 1) := by decide +kernel
theorem d_L_1641 : decode code 1641 = .ok (.aload_n 0, 1) := by decide +kernel
theorem d_L_1642 : decode code 1642 = .ok (.iload_n 3, 1) := by decide +kernel
theorem d_L_1643 : decode code 1643 = .ok (.iconst 1, 1) := by decide +kernel
theorem d_L_1644 : decode code 1644 = .ok (.iadd, 1) := by decide +kernel
theorem d_L_1645 : decode code 1645 = .ok (.iaload, 1) := by decide +kernel
theorem d_L_1646 : decode code 1646 = .ok (.invokevirtual 191, 3) := by decide +kernel
theorem d_L_1649 : decode code 1649 = .ok (.aload_n 2, 1) := by decide +kernel
theorem d_L_1650 : decode code 1650 = .ok (.aload_n 0, 1) := by decide +kernel
theorem d_L_1651 : decode code 1651 = .ok (.iload_n 3, 1) := by decide +kernel
theorem d_L_1652 : decode code 1652 = .ok (.iconst 1, 1) := by decide +kernel
theorem d_L_1653 : decode code 1653 = .ok (.iadd, 1) := by decide +kernel
theorem d_L_1654 : decode code 1654 = .ok (.iaload, 1) := by decide +kernel
theorem d_L_1655 : decode code 1655 = .ok (.invokevirtual 194, 3) := by decide +kernel
theorem d_L_1658 : decode code 1658 = .ok (.if_icmp .eq 54, 3) := by decide +kernel
theorem d_L_1661 : decode code 1661 = .ok (.iconst 0, 1) := by decide +kernel
theorem d_L_1662 : decode code 1662 = .ok (.ireturn, 1) := by decide +kernel
theorem d_L_1663 : decode code 1663 = .ok (.aload_n 1, 1) := by decide +kernel
theorem d_L_1664 : decode code 1664 = .ok (.aload_n 0, 1) := by decide +kernel
theorem d_L_1665 : decode code 1665 = .ok (.iload_n 3, 1) := by decide +kernel
theorem d_L_1666 : decode code 1666 = .ok (.iconst 1, 1) := by decide +kernel
theorem d_L_1667 : decode code 1667 = .ok (.iadd, 1) := by decide +kernel
theorem d_L_1668 : decode code 1668 = .ok (.iaload, 1) := by decide +kernel
theorem d_L_1669 : decode code 1669 = .ok (.invokevirtual 195, 3) := by decide +kernel
theorem d_L_1672 : decode code 1672 = .ok (.aload_n 2, 1) := by decide +kernel
theorem d_L_1673 : decode code 1673 = .ok (.aload_n 0, 1) := by decide +kernel
theorem d_L_1674 : decode code 1674 = .ok (.iload_n 3, 1) := by decide +kernel
theorem d_L_1675 : decode code 1675 = .ok (.iconst 1, 1) := by decide +kernel
theorem d_L_1676 : decode code 1676 = .ok (.iadd, 1) := by decide +kernel
theorem d_L_1677 : decode code 1677 = .ok (.iaload, 1) := by decide +kernel
theorem d_L_1678 : decode code 1678 = .ok (.invokevirtual 198, 3) := by decide +kernel
theorem d_L_1681 : decode code 1681 = .ok (.if_icmp .eq 31, 3) := by decide +kernel
theorem d_L_1684 : decode code 1684 = .ok (.iconst 0, 1) := by decide +kernel
theorem d_L_1685 : decode code 1685 = .ok (.ireturn, 1) := by decide +kernel
theorem d_L_1686 : decode code 1686 = .ok (.aload_n 1, 1) := by decide +kernel
theorem d_L_1687 : decode code 1687 = .ok (.invokevirtual 199, 3) := by decide +kernel
theorem d_L_1690 : decode code 1690 = .ok (.aload_n 2, 1) := by decide +kernel
theorem d_L_1691 : decode code 1691 = .ok (.invokevirtual 202, 3) := by decide +kernel
theorem d_L_1694 : decode code 1694 = .ok (.if_icmp .eq 18, 3) := by decide +kernel
theorem d_L_1697 : decode code 1697 = .ok (.iconst 0, 1) := by decide +kernel
theorem d_L_1698 : decode code 1698 = .ok (.ireturn, 1) := by decide +kernel
theorem d_L_1699 : decode code 1699 = .ok (.aload_n 1, 1) := by decide +kernel
theorem d_L_1700 : decode code 1700 = .ok (.invokevirtual 203, 3) := by decide +kernel
theorem d_L_1703 : decode code 1703 = .ok (.aload_n 2, 1) := by decide +kernel
theorem d_L_1704 : decode code 1704 = .ok (.invokevirtual 206, 3) := by decide +kernel
theorem d_L_1707 : decode code 1707 = .ok (.if_icmp .eq 5, 3) := by decide +kernel
theorem d_L_1710 : decode code 1710 = .ok (.iconst 0, 1) := by decide +kernel
theorem d_L_1711 : decode code 1711 = .ok (.ireturn, 1) := by decide +kernel
theorem d_L_1712 : decode code 1712 = .ok (.iinc 3 5, 3) := by decide +kernel
theorem d_L_1715 : decode code 1715 = .ok (.goto (-1697), 3) := by decide +kernel
theorem d_L_1718 : decode code 1718 = .ok (.iconst 1, 1) := by decide +kernel
theorem d_L_1719 : decode code 1719 = .ok (.ireturn, 1) := by decide +kernel
