theorem dd_L_law_1007 : decode code 1007 = .ok (.iadd, 1) := by decide +kernel
theorem dd_L_law_1008 : decode code 1008 = .ok (.iaload, 1) := by decide +kernel
theorem dd_L_law_1009 : decode code 1009 = .ok (.aload_n 0, 1) := by decide +kernel
theorem dd_L_law_1010 : decode code 1010 = .ok (.iload 4, 2) := by decide +kernel
theorem dd_L_law_1012 : decode code 1012 = .ok (.iconst 2, 1) := by decide +kernel
theorem dd_L_law_1013 : decode code 1013 = .ok (.iadd, 1) := by decide +kernel
theorem dd_L_law_1014 : decode code 1014 = .ok (.iaload, 1) := by decide +kernel
theorem dd_L_law_1015 : decode code 1015 = .ok (.invokevirtual 145, 3) := by decide +kernel
theorem dd_L_law_1018 : decode code 1018 = .ok (.istore 6, 2) := by decide +kernel
theorem dd_L_law_1020 : decode code 1020 = .ok (.aload_n 2, 1) := by decide +kernel
theorem dd_L_law_1021 : decode code 1021 = .ok (.invokevirtual 101, 3) := by decide +kernel
theorem dd_L_law_1024 : decode code 1024 = .ok (.iload 5, 2) := by decide +kernel
theorem dd_L_law_1026 : decode code 1026 = .ok (.if_icmp .eq 5, 3) := by decide +kernel
theorem dd_L_law_1029 : decode code 1029 = .ok (.iconst 0, 1) := by decide +kernel
theorem dd_L_law_1030 : decode code 1030 = .ok (.ireturn, 1) := by decide +kernel
theorem dd_L_law_1031 : decode code 1031 = .ok (.iload 5, 2) := by decide +kernel
theorem dd_L_law_1033 : decode code 1033 = .ok (.ifCond .ne 22, 3) := by decide +kernel
theorem dd_L_law_1036 : decode code 1036 = .ok (.aload_n 3, 1) := by decide +kernel
theorem dd_L_law_1037 : decode code 1037 = .ok (.iconst 0, 1) := by decide +kernel
theorem dd_L_law_1038 : decode code 1038 = .ok (.laload, 1) := by decide +kernel
theorem dd_L_law_1039 : decode code 1039 = .ok (.iload 6, 2) := by decide +kernel
theorem dd_L_law_1041 : decode code 1041 = .ok (.ifCond .eq 7, 3) := by decide +kernel
theorem dd_L_law_1044 : decode code 1044 = .ok (.lconst 1, 1) := by decide +kernel
theorem dd_L_law_1045 : decode code 1045 = .ok (.goto 4, 3) := by decide +kernel
theorem dd_L_law_1048 : decode code 1048 = .ok (.lconst 0, 1) := by decide +kernel
theorem dd_L_law_1049 : decode code 1049 = .ok (.lcmp, 1) := by decide +kernel
theorem dd_L_law_1050 : decode code 1050 = .ok (.ifCond .eq 5, 3) := by decide +kernel
theorem dd_L_law_1053 : decode code 1053 = .ok (.iconst 0, 1) := by decide +kernel
theorem dd_L_law_1054 : decode code 1054 = .ok (.ireturn, 1) := by decide +kernel
theorem dd_L_law_1055 : decode code 1055 = .ok (.goto 591, 3) := by decide +kernel
theorem dd_L_law_1058 : decode code 1058 = .ok (.aload_n 1, 1) := by decide +kernel
theorem dd_L_law_1059 : decode code 1059 = .ok (.aload_n 0, 1) := by decide +kernel
theorem dd_L_law_1060 : decode code 1060 = .ok (.iload 4, 2) := by decide +kernel
theorem dd_L_law_1062 : decode code 1062 = .ok (.iconst 1, 1) := by decide +kernel
theorem dd_L_law_1063 : decode code 1063 = .ok (.iadd, 1) := by decide +kernel
theorem dd_L_law_1064 : decode code 1064 = .ok (.iaload, 1) := by decide +kernel
theorem dd_L_law_1065 : decode code 1065 = .ok (.aload_n 0, 1) := by decide +kernel
theorem dd_L_law_1066 : decode code 1066 = .ok (.iload 4, 2) := by decide +kernel
theorem dd_L_law_1068 : decode code 1068 = .ok (.iconst 2, 1) := by decide +kernel
theorem dd_L_law_1069 : decode code 1069 = .ok (.iadd, 1) := by decide +kernel
theorem dd_L_law_1070 : decode code 1070 = .ok (.iaload, 1) := by decide +kernel
theorem dd_L_law_1071 : decode code 1071 = .ok (.aload_n 0, 1) := by decide +kernel
theorem dd_L_law_1072 : decode code 1072 = .ok (.iload 4, 2) := by decide +kernel
theorem dd_L_law_1074 : decode code 1074 = .ok (.iconst 3, 1) := by decide +kernel
theorem dd_L_law_1075 : decode code 1075 = .ok (.iadd, 1) := by decide +kernel
theorem dd_L_law_1076 : decode code 1076 = .ok (.iaload, 1) := by decide +kernel
theorem dd_L_law_1077 : decode code 1077 = .ok (.aload_n 3, 1) := by decide +kernel
theorem dd_L_law_1078 : decode code 1078 = .ok (.invokestatic 146, 3) := by decide +kernel
theorem dd_L_law_1081 : decode code 1081 = .ok (.istore 5, 2) := by decide +kernel
theorem dd_L_law_1083 : decode code 1083 = .ok (.aload_n 2, 1) := by decide +kernel
theorem dd_L_law_1084 : decode code 1084 = .ok (.aload_n 0, 1) := by decide +kernel
theorem dd_L_law_1085 : decode code 1085 = .ok (.iload 4, 2) := by decide +kernel
theorem dd_L_law_1087 : decode code 1087 = .ok (.iconst 1, 1) := by decide +kernel
theorem dd_L_law_1088 : decode code 1088 = .ok (.iadd, 1) := by decide +kernel
theorem dd_L_law_1089 : decode code 1089 = .ok (.iaload, 1) := by decide +kernel
theorem dd_L_law_1090 : decode code 1090 = .ok (.aload_n 0, 1) := by decide +kernel
theorem dd_L_law_1091 : decode code 1091 = .ok (.iload 4, 2) := by decide +kernel
theorem dd_L_law_1093 : decode code 1093 = .ok (.iconst 2, 1) := by decide +kernel
theorem dd_L_law_1094 : decode code 1094 = .ok (.iadd, 1) := by decide +kernel
theorem dd_L_law_1095 : decode code 1095 = .ok (.iaload, 1) := by decide +kernel
theorem dd_L_law_1096 : decode code 1096 = .ok (.aload_n 0, 1) := by decide +kernel
theorem dd_L_law_1097 : decode code 1097 = .ok (.iload 4, 2) := by decide +kernel
theorem dd_L_law_1099 : decode code 1099 = .ok (.iconst 3, 1) := by decide +kernel
theorem dd_L_law_1100 : decode code 1100 = .ok (.iadd, 1) := by decide +kernel
theorem dd_L_law_1101 : decode code 1101 = .ok (.iaload, 1) := by decide +kernel
theorem dd_L_law_1102 : decode code 1102 = .ok (.invokevirtual 148, 3) := by decide +kernel
theorem dd_L_law_1105 : decode code 1105 = .ok (.istore 6, 2) := by decide +kernel
theorem dd_L_law_1107 : decode code 1107 = .ok (.aload_n 2, 1) := by decide +kernel
theorem dd_L_law_1108 : decode code 1108 = .ok (.invokevirtual 101, 3) := by decide +kernel
theorem dd_L_law_1111 : decode code 1111 = .ok (.iload 5, 2) := by decide +kernel
theorem dd_L_law_1113 : decode code 1113 = .ok (.if_icmp .eq 5, 3) := by decide +kernel
theorem dd_L_law_1116 : decode code 1116 = .ok (.iconst 0, 1) := by decide +kernel
theorem dd_L_law_1117 : decode code 1117 = .ok (.ireturn, 1) := by decide +kernel
theorem dd_L_law_1118 : decode code 1118 = .ok (.iload 5, 2) := by decide +kernel
theorem dd_L_law_1120 : decode code 1120 = .ok (.ifCond .ne 15, 3) := by decide +kernel
theorem dd_L_law_1123 : decode code 1123 = .ok (.aload_n 3, 1) := by decide +kernel
theorem dd_L_law_1124 : decode code 1124 = .ok (.iconst 0, 1) := by decide +kernel
theorem dd_L_law_1125 : decode code 1125 = .ok (.laload, 1) := by decide +kernel
theorem dd_L_law_1126 : decode code 1126 = .ok (.iload 6, 2) := by decide +kernel
theorem dd_L_law_1128 : decode code 1128 = .ok (.i2l, 1) := by decide +kernel
theorem dd_L_law_1129 : decode code 1129 = .ok (.lcmp, 1) := by decide +kernel
theorem dd_L_law_1130 : decode code 1130 = .ok (.ifCond .eq 5, 3) := by decide +kernel
theorem dd_L_law_1133 : decode code 1133 = .ok (.iconst 0, 1) := by decide +kernel
theorem dd_L_law_1134 : decode code 1134 = .ok (.ireturn, 1) := by decide +kernel
theorem dd_L_law_1135 : decode code 1135 = .ok (.goto 511, 3) := by decide +kernel
theorem dd_L_law_1138 : decode code 1138 = .ok (.aload_n 1, 1) := by decide +kernel
theorem dd_L_law_1139 : decode code 1139 = .ok (.aload_n 0, 1) := by decide +kernel
theorem dd_L_law_1140 : decode code 1140 = .ok (.iload 4, 2) := by decide +kernel
theorem dd_L_law_1142 : decode code 1142 = .ok (.iconst 1, 1) := by decide +kernel
theorem dd_L_law_1143 : decode code 1143 = .ok (.iadd, 1) := by decide +kernel
theorem dd_L_law_1144 : decode code 1144 = .ok (.iaload, 1) := by decide +kernel
theorem dd_L_law_1145 : decode code 1145 = .ok (.aload_n 0, 1) := by decide +kernel
theorem dd_L_law_1146 : decode code 1146 = .ok (.iload 4, 2) := by decide +kernel
theorem dd_L_law_1148 : decode code 1148 = .ok (.iconst 2, 1) := by decide +kernel
theorem dd_L_law_1149 : decode code 1149 = .ok (.iadd, 1) := by decide +kernel
theorem dd_L_law_1150 : decode code 1150 = .ok (.iaload, 1) := by decide +kernel
theorem dd_L_law_1151 : decode code 1151 = .ok (.aload_n 0, 1) := by decide +kernel
theorem dd_L_law_1152 : decode code 1152 = .ok (.iload 4, 2) := by decide +kernel
theorem dd_L_law_1154 : decode code 1154 = .ok (.iconst 3, 1) := by decide +kernel
theorem dd_L_law_1155 : decode code 1155 = .ok (.iadd, 1) := by decide +kernel
theorem dd_L_law_1156 : decode code 1156 = .ok (.iaload, 1) := by decide +kernel
theorem dd_L_law_1157 : decode code 1157 = .ok (.aload_n 3, 1) := by decide +kernel
theorem dd_L_law_1158 : decode code 1158 = .ok (.invokestatic 149, 3) := by decide +kernel
theorem dd_L_law_1161 : decode code 1161 = .ok (.istore 5, 2) := by decide +kernel
theorem dd_L_law_1163 : decode code 1163 = .ok (.aload_n 2, 1) := by decide +kernel
theorem dd_L_law_1164 : decode code 1164 = .ok (.aload_n 0, 1) := by decide +kernel
theorem dd_L_law_1165 : decode code 1165 = .ok (.iload 4, 2) := by decide +kernel
theorem dd_L_law_1167 : decode code 1167 = .ok (.iconst 1, 1) := by decide +kernel
theorem dd_L_law_1168 : decode code 1168 = .ok (.iadd, 1) := by decide +kernel
theorem dd_L_law_1169 : decode code 1169 = .ok (.iaload, 1) := by decide +kernel
theorem dd_L_law_1170 : decode code 1170 = .ok (.aload_n 0, 1) := by decide +kernel
theorem dd_L_law_1171 : decode code 1171 = .ok (.iload 4, 2) := by decide +kernel
theorem dd_L_law_1173 : decode code 1173 = .ok (.iconst 2, 1) := by decide +kernel
theorem dd_L_law_1174 : decode code 1174 = .ok (.iadd, 1) := by decide +kernel
theorem dd_L_law_1175 : decode code 1175 = .ok (.iaload, 1) := by decide +kernel
theorem dd_L_law_1176 : decode code 1176 = .ok (.aload_n 0, 1) := by decide +kernel
theorem dd_L_law_1177 : decode code 1177 = .ok (.iload 4, 2) := by decide +kernel
theorem dd_L_law_1179 : decode code 1179 = .ok (.iconst 3, 1) := by decide +kernel
theorem dd_L_law_1180 : decode code 1180 = .ok (.iadd, 1) := by decide +kernel
theorem dd_L_law_1181 : decode code 1181 = .ok (.iaload, 1) := by decide +kernel
theorem dd_L_law_1182 : decode code 1182 = .ok (.invokevirtual 151, 3) := by decide +kernel
theorem dd_L_law_1185 : decode code 1185 = .ok (.istore 6, 2) := by decide +kernel
theorem dd_L_law_1187 : decode code 1187 = .ok (.aload_n 2, 1) := by decide +kernel
theorem dd_L_law_1188 : decode code 1188 = .ok (.invokevirtual 101, 3) := by decide +kernel
theorem dd_L_law_1191 : decode code 1191 = .ok (.iload 5, 2) := by decide +kernel
theorem dd_L_law_1193 : decode code 1193 = .ok (.if_icmp .eq 5, 3) := by decide +kernel
theorem dd_L_law_1196 : decode code 1196 = .ok (.iconst 0, 1) := by decide +kernel
theorem dd_L_law_1197 : decode code 1197 = .ok (.ireturn, 1) := by decide +kernel
theorem dd_L_law_1198 : decode code 1198 = .ok (.iload 5, 2) := by decide +kernel
theorem dd_L_law_1200 : decode code 1200 = .ok (.ifCond .ne 15, 3) := by decide +kernel
theorem dd_L_law_1203 : decode code 1203 = .ok (.aload_n 3, 1) := by decide +kernel
theorem dd_L_law_1204 : decode code 1204 = .ok (.iconst 0, 1) := by decide +kernel
theorem dd_L_law_1205 : decode code 1205 = .ok (.laload, 1) := by decide +kernel
theorem dd_L_law_1206 : decode code 1206 = .ok (.iload 6, 2) := by decide +kernel
theorem dd_L_law_1208 : decode code 1208 = .ok (.i2l, 1) := by decide +kernel
theorem dd_L_law_1209 : decode code 1209 = .ok (.lcmp, 1) := by decide +kernel
theorem dd_L_law_1210 : decode code 1210 = .ok (.ifCond .eq 5, 3) := by decide +kernel
theorem dd_L_law_1213 : decode code 1213 = .ok (.iconst 0, 1) := by decide +kernel
theorem dd_L_law_1214 : decode code 1214 = .ok (.ireturn, 1) := by decide +kernel
theorem dd_L_law_1215 : decode code 1215 = .ok (.goto 431, 3) := by decide +kernel
theorem dd_L_law_1218 : decode code 1218 = .ok (.aload_n 1, 1) := by decide +kernel
theorem dd_L_law_1219 : decode code 1219 = .ok (.aload_n 0, 1) := by decide +kernel
theorem dd_L_law_1220 : decode code 1220 = .ok (.iload 4, 2) := by decide +kernel
theorem dd_L_law_1222 : decode code 1222 = .ok (.iconst 1, 1) := by decide +kernel
theorem dd_L_law_1223 : decode code 1223 = .ok (.iadd, 1) := by decide +kernel
theorem dd_L_law_1224 : decode code 1224 = .ok (.iaload, 1) := by decide +kernel
theorem dd_L_law_1225 : decode code 1225 = .ok (.aload_n 0, 1) := by decide +kernel
theorem dd_L_law_1226 : decode code 1226 = .ok (.iload 4, 2) := by decide +kernel
theorem dd_L_law_1228 : decode code 1228 = .ok (.iconst 2, 1) := by decide +kernel
theorem dd_L_law_1229 : decode code 1229 = .ok (.iadd, 1) := by decide +kernel
theorem dd_L_law_1230 : decode code 1230 = .ok (.iaload, 1) := by decide +kernel
theorem dd_L_law_1231 : decode code 1231 = .ok (.aload_n 0, 1) := by decide +kernel
theorem dd_L_law_1232 : decode code 1232 = .ok (.iload 4, 2) := by decide +kernel
theorem dd_L_law_1234 : decode code 1234 = .ok (.iconst 3, 1) := by decide +kernel
theorem dd_L_law_1235 : decode code 1235 = .ok (.iadd, 1) := by decide +kernel
theorem dd_L_law_1236 : decode code 1236 = .ok (.iaload, 1) := by decide +kernel
theorem dd_L_law_1237 : decode code 1237 = .ok (.aload_n 3, 1) := by decide +kernel
theorem dd_L_law_1238 : decode code 1238 = .ok (.invokestatic 152, 3) := by decide +kernel
theorem dd_L_law_1241 : decode code 1241 = .ok (.istore 5, 2) := by decide +kernel
theorem dd_L_law_1243 : decode code 1243 = .ok (.aload_n 2, 1) := by decide +kernel
theorem dd_L_law_1244 : decode code 1244 = .ok (.aload_n 0, 1) := by decide +kernel
theorem dd_L_law_1245 : decode code 1245 = .ok (.iload 4, 2) := by decide +kernel
theorem dd_L_law_1247 : decode code 1247 = .ok (.iconst 1, 1) := by decide +kernel
theorem dd_L_law_1248 : decode code 1248 = .ok (.iadd, 1) := by decide +kernel
theorem dd_L_law_1249 : decode code 1249 = .ok (.iaload, 1) := by decide +kernel
theorem dd_L_law_1250 : decode code 1250 = .ok (.aload_n 0, 1) := by decide +kernel
theorem dd_L_law_1251 : decode code 1251 = .ok (.iload 4, 2) := by decide +kernel
theorem dd_L_law_1253 : decode code 1253 = .ok (.iconst 2, 1) := by decide +kernel
theorem dd_L_law_1254 : decode code 1254 = .ok (.iadd, 1) := by decide +kernel
theorem dd_L_law_1255 : decode code 1255 = .ok (.iaload, 1) := by decide +kernel
theorem dd_L_law_1256 : decode code 1256 = .ok (.aload_n 0, 1) := by decide +kernel
theorem dd_L_law_1257 : decode code 1257 = .ok (.iload 4, 2) := by decide +kernel
theorem dd_L_law_1259 : decode code 1259 = .ok (.iconst 3, 1) := by decide +kernel
theorem dd_L_law_1260 : decode code 1260 = .ok (.iadd, 1) := by decide +kernel
theorem dd_L_law_1261 : decode code 1261 = .ok (.iaload, 1) := by decide +kernel
theorem dd_L_law_1262 : decode code 1262 = .ok (.invokevirtual 154, 3) := by decide +kernel
theorem dd_L_law_1265 : decode code 1265 = .ok (.istore 6, 2) := by decide +kernel
theorem dd_L_law_1267 : decode code 1267 = .ok (.aload_n 2, 1) := by decide +kernel
theorem dd_L_law_1268 : decode code 1268 = .ok (.invokevirtual 101, 3) := by decide +kernel
theorem dd_L_law_1271 : decode code 1271 = .ok (.iload 5, 2) := by decide +kernel
theorem dd_L_law_1273 : decode code 1273 = .ok (.if_icmp .eq 5, 3) := by decide +kernel
theorem dd_L_law_1276 : decode code 1276 = .ok (.iconst 0, 1) := by decide +kernel
theorem dd_L_law_1277 : decode code 1277 = .ok (.ireturn, 1) := by decide +kernel
theorem dd_L_law_1278 : decode code 1278 = .ok (.iload 5, 2) := by decide +kernel
theorem dd_L_law_1280 : decode code 1280 = .ok (.ifCond .ne 15, 3) := by decide +kernel
theorem dd_L_law_1283 : decode code 1283 = .ok (.aload_n 3, 1) := by decide +kernel
theorem dd_L_law_1284 : decode code 1284 = .ok (.iconst 0, 1) := by decide +kernel
theorem dd_L_law_1285 : decode code 1285 = .ok (.laload, 1) := by decide +kernel
theorem dd_L_law_1286 : decode code 1286 = .ok (.iload 6, 2) := by decide +kernel
theorem dd_L_law_1288 : decode code 1288 = .ok (.i2l, 1) := by decide +kernel
theorem dd_L_law_1289 : decode code 1289 = .ok (.lcmp, 1) := by decide +kernel
theorem dd_L_law_1290 : decode code 1290 = .ok (.ifCond .eq 5, 3) := by decide +kernel
theorem dd_L_law_1293 : decode code 1293 = .ok (.iconst 0, 1) := by decide +kernel
theorem dd_L_law_1294 : decode code 1294 = .ok (.ireturn, 1) := by decide +kernel
theorem dd_L_law_1295 : decode code 1295 = .ok (.goto 351, 3) := by decide +kernel
theorem dd_L_law_1298 : decode code 1298 = .ok (.aload_n 1, 1) := by decide +kernel
theorem dd_L_law_1299 : decode code 1299 = .ok (.aload_n 0, 1) := by decide +kernel
theorem dd_L_law_1300 : decode code 1300 = .ok (.iload 4, 2) := by decide +kernel
theorem dd_L_law_1302 : decode code 1302 = .ok (.iconst 1, 1) := by decide +kernel
theorem dd_L_law_1303 : decode code 1303 = .ok (.iadd, 1) := by decide +kernel
