theorem zd_Law_law_0 : decode code 0 = .ok (.new 7, 3) := by decide +kernel
theorem zd_Law_law_3 : decode code 3 = .ok (.dup, 1) := by decide +kernel
theorem zd_Law_law_4 : decode code 4 = .ok (.invokespecial 9, 3) := by decide +kernel
theorem zd_Law_law_7 : decode code 7 = .ok (.astore_n 1, 1) := by decide +kernel
theorem zd_Law_law_8 : decode code 8 = .ok (.new 10, 3) := by decide +kernel
theorem zd_Law_law_11 : decode code 11 = .ok (.dup, 1) := by decide +kernel
theorem zd_Law_law_12 : decode code 12 = .ok (.invokespecial 12, 3) := by decide +kernel
theorem zd_Law_law_15 : decode code 15 = .ok (.astore_n 2, 1) := by decide +kernel
theorem zd_Law_law_16 : decode code 16 = .ok (.iconst 0, 1) := by decide +kernel
theorem zd_Law_law_17 : decode code 17 = .ok (.istore_n 3, 1) := by decide +kernel
theorem zd_Law_law_18 : decode code 18 = .ok (.iload_n 3, 1) := by decide +kernel
theorem zd_Law_law_19 : decode code 19 = .ok (.aload_n 0, 1) := by decide +kernel
theorem zd_Law_law_20 : decode code 20 = .ok (.arraylength, 1) := by decide +kernel
theorem zd_Law_law_21 : decode code 21 = .ok (.bipush 6, 2) := by decide +kernel
theorem zd_Law_law_23 : decode code 23 = .ok (.isub, 1) := by decide +kernel
theorem zd_Law_law_24 : decode code 24 = .ok (.if_icmp .gt 1301, 3) := by decide +kernel
theorem zd_Law_law_1325 : decode code 1325 = .ok (.iconst 1, 1) := by decide +kernel
theorem zd_Law_law_1326 : decode code 1326 = .ok (.ireturn, 1) := by decide +kernel
theorem zd_Law_law_27 : decode code 27 = .ok (.aload_n 0, 1) := by decide +kernel
theorem zd_Law_law_28 : decode code 28 = .ok (.iload_n 3, 1) := by decide +kernel
theorem zd_Law_law_29 : decode code 29 = .ok (.iaload, 1) := by decide +kernel
theorem zd_Law_law_30 : decode code 30 = .ok (.bipush 63, 2) := by decide +kernel
theorem zd_Law_law_32 : decode code 32 = .ok (.iand, 1) := by decide +kernel
theorem zd_Law_law_33 : decode code 33 = .ok (.tableswitch 1286 0 33 #[151, 194, 227, 270, 303, 346, 379, 422, 445, 458, 481, 504, 537, 560, 603, 646, 679, 712, 756, 790, 823, 846, 879, 892, 925, 938, 951, 994, 1017, 1050, 1073, 1116, 1189, 1223], 151) := by decide +kernel
theorem zd_Law_law_1256 : decode code 1256 = .ok (.aload_n 1, 1) := by decide +kernel
theorem zd_Law_law_1257 : decode code 1257 = .ok (.aload_n 0, 1) := by decide +kernel
theorem zd_Law_law_1258 : decode code 1258 = .ok (.iload_n 3, 1) := by decide +kernel
theorem zd_Law_law_1259 : decode code 1259 = .ok (.iconst 1, 1) := by decide +kernel
theorem zd_Law_law_1260 : decode code 1260 = .ok (.iadd, 1) := by decide +kernel
theorem zd_Law_law_1261 : decode code 1261 = .ok (.iaload, 1) := by decide +kernel
theorem zd_Law_law_1262 : decode code 1262 = .ok (.aload_n 0, 1) := by decide +kernel
theorem zd_Law_law_1263 : decode code 1263 = .ok (.iload_n 3, 1) := by decide +kernel
theorem zd_Law_law_1264 : decode code 1264 = .ok (.iconst 2, 1) := by decide +kernel
theorem zd_Law_law_1265 : decode code 1265 = .ok (.iadd, 1) := by decide +kernel
theorem zd_Law_law_1266 : decode code 1266 = .ok (.iaload, 1) := by decide +kernel
theorem zd_Law_law_1267 : decode code 1267 = .ok (.aload_n 0, 1) := by decide +kernel
theorem zd_Law_law_1268 : decode code 1268 = .ok (.iload_n 3, 1) := by decide +kernel
theorem zd_Law_law_1269 : decode code 1269 = .ok (.iconst 3, 1) := by decide +kernel
theorem zd_Law_law_1270 : decode code 1270 = .ok (.iadd, 1) := by decide +kernel
theorem zd_Law_law_1271 : decode code 1271 = .ok (.iaload, 1) := by decide +kernel
theorem zd_Law_law_1272 : decode code 1272 = .ok (.aload_n 0, 1) := by decide +kernel
theorem zd_Law_law_1273 : decode code 1273 = .ok (.iload_n 3, 1) := by decide +kernel
theorem zd_Law_law_1274 : decode code 1274 = .ok (.iconst 4, 1) := by decide +kernel
theorem zd_Law_law_1275 : decode code 1275 = .ok (.iadd, 1) := by decide +kernel
theorem zd_Law_law_1276 : decode code 1276 = .ok (.iaload, 1) := by decide +kernel
theorem zd_Law_law_1277 : decode code 1277 = .ok (.aload_n 0, 1) := by decide +kernel
theorem zd_Law_law_1278 : decode code 1278 = .ok (.iload_n 3, 1) := by decide +kernel
theorem zd_Law_law_1279 : decode code 1279 = .ok (.iconst 5, 1) := by decide +kernel
theorem zd_Law_law_1280 : decode code 1280 = .ok (.iadd, 1) := by decide +kernel
theorem zd_Law_law_1281 : decode code 1281 = .ok (.iaload, 1) := by decide +kernel
theorem zd_Law_law_1282 : decode code 1282 = .ok (.invokevirtual 154, 3) := by decide +kernel
theorem zd_Law_law_1285 : decode code 1285 = .ok (.aload_n 2, 1) := by decide +kernel
theorem zd_Law_law_1286 : decode code 1286 = .ok (.aload_n 0, 1) := by decide +kernel
theorem zd_Law_law_1287 : decode code 1287 = .ok (.iload_n 3, 1) := by decide +kernel
theorem zd_Law_law_1288 : decode code 1288 = .ok (.iconst 1, 1) := by decide +kernel
theorem zd_Law_law_1289 : decode code 1289 = .ok (.iadd, 1) := by decide +kernel
theorem zd_Law_law_1290 : decode code 1290 = .ok (.iaload, 1) := by decide +kernel
theorem zd_Law_law_1291 : decode code 1291 = .ok (.aload_n 0, 1) := by decide +kernel
theorem zd_Law_law_1292 : decode code 1292 = .ok (.iload_n 3, 1) := by decide +kernel
theorem zd_Law_law_1293 : decode code 1293 = .ok (.iconst 2, 1) := by decide +kernel
theorem zd_Law_law_1294 : decode code 1294 = .ok (.iadd, 1) := by decide +kernel
theorem zd_Law_law_1295 : decode code 1295 = .ok (.iaload, 1) := by decide +kernel
theorem zd_Law_law_1296 : decode code 1296 = .ok (.aload_n 0, 1) := by decide +kernel
theorem zd_Law_law_1297 : decode code 1297 = .ok (.iload_n 3, 1) := by decide +kernel
theorem zd_Law_law_1298 : decode code 1298 = .ok (.iconst 3, 1) := by decide +kernel
theorem zd_Law_law_1299 : decode code 1299 = .ok (.iadd, 1) := by decide +kernel
theorem zd_Law_law_1300 : decode code 1300 = .ok (.iaload, 1) := by decide +kernel
theorem zd_Law_law_1301 : decode code 1301 = .ok (.aload_n 0, 1) := by decide +kernel
theorem zd_Law_law_1302 : decode code 1302 = .ok (.iload_n 3, 1) := by decide +kernel
theorem zd_Law_law_1303 : decode code 1303 = .ok (.iconst 4, 1) := by decide +kernel
theorem zd_Law_law_1304 : decode code 1304 = .ok (.iadd, 1) := by decide +kernel
theorem zd_Law_law_1305 : decode code 1305 = .ok (.iaload, 1) := by decide +kernel
theorem zd_Law_law_1306 : decode code 1306 = .ok (.aload_n 0, 1) := by decide +kernel
theorem zd_Law_law_1307 : decode code 1307 = .ok (.iload_n 3, 1) := by decide +kernel
theorem zd_Law_law_1308 : decode code 1308 = .ok (.iconst 5, 1) := by decide +kernel
theorem zd_Law_law_1309 : decode code 1309 = .ok (.iadd, 1) := by decide +kernel
theorem zd_Law_law_1310 : decode code 1310 = .ok (.iaload, 1) := by decide +kernel
theorem zd_Law_law_1311 : decode code 1311 = .ok (.invokevirtual 158, 3) := by decide +kernel
theorem zd_Law_law_1314 : decode code 1314 = .ok (.if_icmp .eq 5, 3) := by decide +kernel
theorem zd_Law_law_1317 : decode code 1317 = .ok (.iconst 0, 1) := by decide +kernel
theorem zd_Law_law_1318 : decode code 1318 = .ok (.ireturn, 1) := by decide +kernel
theorem zd_Law_law_1222 : decode code 1222 = .ok (.aload_n 1, 1) := by decide +kernel
theorem zd_Law_law_1223 : decode code 1223 = .ok (.aload_n 0, 1) := by decide +kernel
theorem zd_Law_law_1224 : decode code 1224 = .ok (.iload_n 3, 1) := by decide +kernel
theorem zd_Law_law_1225 : decode code 1225 = .ok (.iconst 1, 1) := by decide +kernel
theorem zd_Law_law_1226 : decode code 1226 = .ok (.iadd, 1) := by decide +kernel
theorem zd_Law_law_1227 : decode code 1227 = .ok (.iaload, 1) := by decide +kernel
theorem zd_Law_law_1228 : decode code 1228 = .ok (.aload_n 0, 1) := by decide +kernel
theorem zd_Law_law_1229 : decode code 1229 = .ok (.iload_n 3, 1) := by decide +kernel
theorem zd_Law_law_1230 : decode code 1230 = .ok (.iconst 2, 1) := by decide +kernel
theorem zd_Law_law_1231 : decode code 1231 = .ok (.iadd, 1) := by decide +kernel
theorem zd_Law_law_1232 : decode code 1232 = .ok (.iaload, 1) := by decide +kernel
theorem zd_Law_law_1233 : decode code 1233 = .ok (.invokevirtual 150, 3) := by decide +kernel
theorem zd_Law_law_1236 : decode code 1236 = .ok (.aload_n 2, 1) := by decide +kernel
theorem zd_Law_law_1237 : decode code 1237 = .ok (.aload_n 0, 1) := by decide +kernel
theorem zd_Law_law_1238 : decode code 1238 = .ok (.iload_n 3, 1) := by decide +kernel
theorem zd_Law_law_1239 : decode code 1239 = .ok (.iconst 1, 1) := by decide +kernel
theorem zd_Law_law_1240 : decode code 1240 = .ok (.iadd, 1) := by decide +kernel
theorem zd_Law_law_1241 : decode code 1241 = .ok (.iaload, 1) := by decide +kernel
theorem zd_Law_law_1242 : decode code 1242 = .ok (.aload_n 0, 1) := by decide +kernel
theorem zd_Law_law_1243 : decode code 1243 = .ok (.iload_n 3, 1) := by decide +kernel
theorem zd_Law_law_1244 : decode code 1244 = .ok (.iconst 2, 1) := by decide +kernel
theorem zd_Law_law_1245 : decode code 1245 = .ok (.iadd, 1) := by decide +kernel
theorem zd_Law_law_1246 : decode code 1246 = .ok (.iaload, 1) := by decide +kernel
theorem zd_Law_law_1247 : decode code 1247 = .ok (.invokevirtual 153, 3) := by decide +kernel
theorem zd_Law_law_1250 : decode code 1250 = .ok (.lcmp, 1) := by decide +kernel
theorem zd_Law_law_1251 : decode code 1251 = .ok (.ifCond .eq 68, 3) := by decide +kernel
theorem zd_Law_law_1254 : decode code 1254 = .ok (.iconst 0, 1) := by decide +kernel
theorem zd_Law_law_1255 : decode code 1255 = .ok (.ireturn, 1) := by decide +kernel
theorem zd_Law_law_1149 : decode code 1149 = .ok (.aload_n 1, 1) := by decide +kernel
theorem zd_Law_law_1150 : decode code 1150 = .ok (.aload_n 0, 1) := by decide +kernel
theorem zd_Law_law_1151 : decode code 1151 = .ok (.iload_n 3, 1) := by decide +kernel
theorem zd_Law_law_1152 : decode code 1152 = .ok (.iconst 1, 1) := by decide +kernel
theorem zd_Law_law_1153 : decode code 1153 = .ok (.iadd, 1) := by decide +kernel
theorem zd_Law_law_1154 : decode code 1154 = .ok (.iaload, 1) := by decide +kernel
theorem zd_Law_law_1155 : decode code 1155 = .ok (.aload_n 0, 1) := by decide +kernel
theorem zd_Law_law_1156 : decode code 1156 = .ok (.iload_n 3, 1) := by decide +kernel
theorem zd_Law_law_1157 : decode code 1157 = .ok (.iconst 2, 1) := by decide +kernel
theorem zd_Law_law_1158 : decode code 1158 = .ok (.iadd, 1) := by decide +kernel
theorem zd_Law_law_1159 : decode code 1159 = .ok (.iaload, 1) := by decide +kernel
theorem zd_Law_law_1160 : decode code 1160 = .ok (.aload_n 0, 1) := by decide +kernel
theorem zd_Law_law_1161 : decode code 1161 = .ok (.iload_n 3, 1) := by decide +kernel
theorem zd_Law_law_1162 : decode code 1162 = .ok (.iconst 3, 1) := by decide +kernel
theorem zd_Law_law_1163 : decode code 1163 = .ok (.iadd, 1) := by decide +kernel
theorem zd_Law_law_1164 : decode code 1164 = .ok (.iaload, 1) := by decide +kernel
theorem zd_Law_law_1165 : decode code 1165 = .ok (.i2l, 1) := by decide +kernel
theorem zd_Law_law_1166 : decode code 1166 = .ok (.bipush 32, 2) := by decide +kernel
theorem zd_Law_law_1168 : decode code 1168 = .ok (.lshl, 1) := by decide +kernel
theorem zd_Law_law_1169 : decode code 1169 = .ok (.aload_n 0, 1) := by decide +kernel
theorem zd_Law_law_1170 : decode code 1170 = .ok (.iload_n 3, 1) := by decide +kernel
theorem zd_Law_law_1171 : decode code 1171 = .ok (.iconst 4, 1) := by decide +kernel
theorem zd_Law_law_1172 : decode code 1172 = .ok (.iadd, 1) := by decide +kernel
theorem zd_Law_law_1173 : decode code 1173 = .ok (.iaload, 1) := by decide +kernel
theorem zd_Law_law_1174 : decode code 1174 = .ok (.i2l, 1) := by decide +kernel
theorem zd_Law_law_1175 : decode code 1175 = .ok (.ldc2_w 143, 3) := by decide +kernel
theorem zd_Law_law_1178 : decode code 1178 = .ok (.land, 1) := by decide +kernel
theorem zd_Law_law_1179 : decode code 1179 = .ok (.lor, 1) := by decide +kernel
theorem zd_Law_law_1180 : decode code 1180 = .ok (.invokevirtual 145, 3) := by decide +kernel
theorem zd_Law_law_1183 : decode code 1183 = .ok (.aload_n 2, 1) := by decide +kernel
theorem zd_Law_law_1184 : decode code 1184 = .ok (.aload_n 0, 1) := by decide +kernel
theorem zd_Law_law_1185 : decode code 1185 = .ok (.iload_n 3, 1) := by decide +kernel
theorem zd_Law_law_1186 : decode code 1186 = .ok (.iconst 1, 1) := by decide +kernel
theorem zd_Law_law_1187 : decode code 1187 = .ok (.iadd, 1) := by decide +kernel
theorem zd_Law_law_1188 : decode code 1188 = .ok (.iaload, 1) := by decide +kernel
theorem zd_Law_law_1189 : decode code 1189 = .ok (.aload_n 0, 1) := by decide +kernel
theorem zd_Law_law_1190 : decode code 1190 = .ok (.iload_n 3, 1) := by decide +kernel
theorem zd_Law_law_1191 : decode code 1191 = .ok (.iconst 2, 1) := by decide +kernel
theorem zd_Law_law_1192 : decode code 1192 = .ok (.iadd, 1) := by decide +kernel
theorem zd_Law_law_1193 : decode code 1193 = .ok (.iaload, 1) := by decide +kernel
theorem zd_Law_law_1194 : decode code 1194 = .ok (.aload_n 0, 1) := by decide +kernel
theorem zd_Law_law_1195 : decode code 1195 = .ok (.iload_n 3, 1) := by decide +kernel
theorem zd_Law_law_1196 : decode code 1196 = .ok (.iconst 3, 1) := by decide +kernel
theorem zd_Law_law_1197 : decode code 1197 = .ok (.iadd, 1) := by decide +kernel
theorem zd_Law_law_1198 : decode code 1198 = .ok (.iaload, 1) := by decide +kernel
theorem zd_Law_law_1199 : decode code 1199 = .ok (.i2l, 1) := by decide +kernel
theorem zd_Law_law_1200 : decode code 1200 = .ok (.bipush 32, 2) := by decide +kernel
theorem zd_Law_law_1202 : decode code 1202 = .ok (.lshl, 1) := by decide +kernel
theorem zd_Law_law_1203 : decode code 1203 = .ok (.aload_n 0, 1) := by decide +kernel
theorem zd_Law_law_1204 : decode code 1204 = .ok (.iload_n 3, 1) := by decide +kernel
theorem zd_Law_law_1205 : decode code 1205 = .ok (.iconst 4, 1) := by decide +kernel
theorem zd_Law_law_1206 : decode code 1206 = .ok (.iadd, 1) := by decide +kernel
theorem zd_Law_law_1207 : decode code 1207 = .ok (.iaload, 1) := by decide +kernel
theorem zd_Law_law_1208 : decode code 1208 = .ok (.i2l, 1) := by decide +kernel
theorem zd_Law_law_1209 : decode code 1209 = .ok (.ldc2_w 143, 3) := by decide +kernel
theorem zd_Law_law_1212 : decode code 1212 = .ok (.land, 1) := by decide +kernel
theorem zd_Law_law_1213 : decode code 1213 = .ok (.lor, 1) := by decide +kernel
theorem zd_Law_law_1214 : decode code 1214 = .ok (.invokevirtual 149, 3) := by decide +kernel
theorem zd_Law_law_1217 : decode code 1217 = .ok (.if_icmp .eq 102, 3) := by decide +kernel
theorem zd_Law_law_1220 : decode code 1220 = .ok (.iconst 0, 1) := by decide +kernel
theorem zd_Law_law_1221 : decode code 1221 = .ok (.ireturn, 1) := by decide +kernel
theorem zd_Law_law_1106 : decode code 1106 = .ok (.aload_n 1, 1) := by decide +kernel
theorem zd_Law_law_1107 : decode code 1107 = .ok (.aload_n 0, 1) := by decide +kernel
theorem zd_Law_law_1108 : decode code 1108 = .ok (.iload_n 3, 1) := by decide +kernel
theorem zd_Law_law_1109 : decode code 1109 = .ok (.iconst 1, 1) := by decide +kernel
theorem zd_Law_law_1110 : decode code 1110 = .ok (.iadd, 1) := by decide +kernel
theorem zd_Law_law_1111 : decode code 1111 = .ok (.iaload, 1) := by decide +kernel
theorem zd_Law_law_1112 : decode code 1112 = .ok (.aload_n 0, 1) := by decide +kernel
theorem zd_Law_law_1113 : decode code 1113 = .ok (.iload_n 3, 1) := by decide +kernel
theorem zd_Law_law_1114 : decode code 1114 = .ok (.iconst 2, 1) := by decide +kernel
theorem zd_Law_law_1115 : decode code 1115 = .ok (.iadd, 1) := by decide +kernel
theorem zd_Law_law_1116 : decode code 1116 = .ok (.iaload, 1) := by decide +kernel
theorem zd_Law_law_1117 : decode code 1117 = .ok (.aload_n 0, 1) := by decide +kernel
theorem zd_Law_law_1118 : decode code 1118 = .ok (.iload_n 3, 1) := by decide +kernel
theorem zd_Law_law_1119 : decode code 1119 = .ok (.iconst 3, 1) := by decide +kernel
theorem zd_Law_law_1120 : decode code 1120 = .ok (.iadd, 1) := by decide +kernel
theorem zd_Law_law_1121 : decode code 1121 = .ok (.iaload, 1) := by decide +kernel
theorem zd_Law_law_1122 : decode code 1122 = .ok (.invokevirtual 139, 3) := by decide +kernel
theorem zd_Law_law_1125 : decode code 1125 = .ok (.aload_n 2, 1) := by decide +kernel
theorem zd_Law_law_1126 : decode code 1126 = .ok (.aload_n 0, 1) := by decide +kernel
theorem zd_Law_law_1127 : decode code 1127 = .ok (.iload_n 3, 1) := by decide +kernel
theorem zd_Law_law_1128 : decode code 1128 = .ok (.iconst 1, 1) := by decide +kernel
theorem zd_Law_law_1129 : decode code 1129 = .ok (.iadd, 1) := by decide +kernel
theorem zd_Law_law_1130 : decode code 1130 = .ok (.iaload, 1) := by decide +kernel
theorem zd_Law_law_1131 : decode code 1131 = .ok (.aload_n 0, 1) := by decide +kernel
theorem zd_Law_law_1132 : decode code 1132 = .ok (.iload_n 3, 1) := by decide +kernel
theorem zd_Law_law_1133 : decode code 1133 = .ok (.iconst 2, 1) := by decide +kernel
theorem zd_Law_law_1134 : decode code 1134 = .ok (.iadd, 1) := by decide +kernel
theorem zd_Law_law_1135 : decode code 1135 = .ok (.iaload, 1) := by decide +kernel
theorem zd_Law_law_1136 : decode code 1136 = .ok (.aload_n 0, 1) := by decide +kernel
theorem zd_Law_law_1137 : decode code 1137 = .ok (.iload_n 3, 1) := by decide +kernel
theorem zd_Law_law_1138 : decode code 1138 = .ok (.iconst 3, 1) := by decide +kernel
theorem zd_Law_law_1139 : decode code 1139 = .ok (.iadd, 1) := by decide +kernel
theorem zd_Law_law_1140 : decode code 1140 = .ok (.iaload, 1) := by decide +kernel
theorem zd_Law_law_1141 : decode code 1141 = .ok (.invokevirtual 142, 3) := by decide +kernel
theorem zd_Law_law_1144 : decode code 1144 = .ok (.if_icmp .eq 175, 3) := by decide +kernel
theorem zd_Law_law_1147 : decode code 1147 = .ok (.iconst 0, 1) := by decide +kernel
theorem zd_Law_law_1148 : decode code 1148 = .ok (.ireturn, 1) := by decide +kernel
theorem zd_Law_law_1083 : decode code 1083 = .ok (.aload_n 1, 1) := by decide +kernel
theorem zd_Law_law_1084 : decode code 1084 = .ok (.aload_n 0, 1) := by decide +kernel
theorem zd_Law_law_1085 : decode code 1085 = .ok (.iload_n 3, 1) := by decide +kernel
theorem zd_Law_law_1086 : decode code 1086 = .ok (.iconst 1, 1) := by decide +kernel
theorem zd_Law_law_1087 : decode code 1087 = .ok (.iadd, 1) := by decide +kernel
theorem zd_Law_law_1088 : decode code 1088 = .ok (.iaload, 1) := by decide +kernel
theorem zd_Law_law_1089 : decode code 1089 = .ok (.invokevirtual 135, 3) := by decide +kernel
theorem zd_Law_law_1092 : decode code 1092 = .ok (.aload_n 2, 1) := by decide +kernel
theorem zd_Law_law_1093 : decode code 1093 = .ok (.aload_n 0, 1) := by decide +kernel
theorem zd_Law_law_1094 : decode code 1094 = .ok (.iload_n 3, 1) := by decide +kernel
theorem zd_Law_law_1095 : decode code 1095 = .ok (.iconst 1, 1) := by decide +kernel
theorem zd_Law_law_1096 : decode code 1096 = .ok (.iadd, 1) := by decide +kernel
theorem zd_Law_law_1097 : decode code 1097 = .ok (.iaload, 1) := by decide +kernel
theorem zd_Law_law_1098 : decode code 1098 = .ok (.invokevirtual 138, 3) := by decide +kernel
theorem zd_Law_law_1101 : decode code 1101 = .ok (.if_icmp .eq 218, 3) := by decide +kernel
theorem zd_Law_law_1104 : decode code 1104 = .ok (.iconst 0, 1) := by decide +kernel
theorem zd_Law_law_1105 : decode code 1105 = .ok (.ireturn, 1) := by decide +kernel
theorem zd_Law_law_1050 : decode code 1050 = .ok (.aload_n 1, 1) := by decide +kernel
theorem zd_Law_law_1051 : decode code 1051 = .ok (.aload_n 0, 1) := by decide +kernel
theorem zd_Law_law_1052 : decode code 1052 = .ok (.iload_n 3, 1) := by decide +kernel
theorem zd_Law_law_1053 : decode code 1053 = .ok (.iconst 1, 1) := by decide +kernel
theorem zd_Law_law_1054 : decode code 1054 = .ok (.iadd, 1) := by decide +kernel
theorem zd_Law_law_1055 : decode code 1055 = .ok (.iaload, 1) := by decide +kernel
theorem zd_Law_law_1056 : decode code 1056 = .ok (.aload_n 0, 1) := by decide +kernel
theorem zd_Law_law_1057 : decode code 1057 = .ok (.iload_n 3, 1) := by decide +kernel
theorem zd_Law_law_1058 : decode code 1058 = .ok (.iconst 2, 1) := by decide +kernel
theorem zd_Law_law_1059 : decode code 1059 = .ok (.iadd, 1) := by decide +kernel
theorem zd_Law_law_1060 : decode code 1060 = .ok (.iaload, 1) := by decide +kernel
theorem zd_Law_law_1061 : decode code 1061 = .ok (.invokevirtual 131, 3) := by decide +kernel
theorem zd_Law_law_1064 : decode code 1064 = .ok (.aload_n 2, 1) := by decide +kernel
theorem zd_Law_law_1065 : decode code 1065 = .ok (.aload_n 0, 1) := by decide +kernel
theorem zd_Law_law_1066 : decode code 1066 = .ok (.iload_n 3, 1) := by decide +kernel
theorem zd_Law_law_1067 : decode code 1067 = .ok (.iconst 1, 1) := by decide +kernel
theorem zd_Law_law_1068 : decode code 1068 = .ok (.iadd, 1) := by decide +kernel
theorem zd_Law_law_1069 : decode code 1069 = .ok (.iaload, 1) := by decide +kernel
theorem zd_Law_law_1070 : decode code 1070 = .ok (.aload_n 0, 1) := by decide +kernel
theorem zd_Law_law_1071 : decode code 1071 = .ok (.iload_n 3, 1) := by decide +kernel
theorem zd_Law_law_1072 : decode code 1072 = .ok (.iconst 2, 1) := by decide +kernel
theorem zd_Law_law_1073 : decode code 1073 = .ok (.iadd, 1) := by decide +kernel
theorem zd_Law_law_1074 : decode code 1074 = .ok (.iaload, 1) := by decide +kernel
theorem zd_Law_law_1075 : decode code 1075 = .ok (.invokevirtual 134, 3) := by decide +kernel
theorem zd_Law_law_1078 : decode code 1078 = .ok (.if_icmp .eq 241, 3) := by decide +kernel
theorem zd_Law_law_1081 : decode code 1081 = .ok (.iconst 0, 1) := by decide +kernel
theorem zd_Law_law_1082 : decode code 1082 = .ok (.ireturn, 1) := by decide +kernel
theorem zd_Law_law_1027 : decode code 1027 = .ok (.aload_n 1, 1) := by decide +kernel
theorem zd_Law_law_1028 : decode code 1028 = .ok (.aload_n 0, 1) := by decide +kernel
theorem zd_Law_law_1029 : decode code 1029 = .ok (.iload_n 3, 1) := by decide +kernel
theorem zd_Law_law_1030 : decode code 1030 = .ok (.iconst 1, 1) := by decide +kernel
theorem zd_Law_law_1031 : decode code 1031 = .ok (.iadd, 1) := by decide +kernel
theorem zd_Law_law_1032 : decode code 1032 = .ok (.iaload, 1) := by decide +kernel
theorem zd_Law_law_1033 : decode code 1033 = .ok (.invokevirtual 127, 3) := by decide +kernel
theorem zd_Law_law_1036 : decode code 1036 = .ok (.aload_n 2, 1) := by decide +kernel
theorem zd_Law_law_1037 : decode code 1037 = .ok (.aload_n 0, 1) := by decide +kernel
theorem zd_Law_law_1038 : decode code 1038 = .ok (.iload_n 3, 1) := by decide +kernel
theorem zd_Law_law_1039 : decode code 1039 = .ok (.iconst 1, 1) := by decide +kernel
theorem zd_Law_law_1040 : decode code 1040 = .ok (.iadd, 1) := by decide +kernel
theorem zd_Law_law_1041 : decode code 1041 = .ok (.iaload, 1) := by decide +kernel
theorem zd_Law_law_1042 : decode code 1042 = .ok (.invokevirtual 130, 3) := by decide +kernel
theorem zd_Law_law_1045 : decode code 1045 = .ok (.if_icmp .eq 274, 3) := by decide +kernel
theorem zd_Law_law_1048 : decode code 1048 = .ok (.iconst 0, 1) := by decide +kernel
theorem zd_Law_law_1049 : decode code 1049 = .ok (.ireturn, 1) := by decide +kernel
theorem zd_Law_law_984 : decode code 984 = .ok (.aload_n 1, 1) := by decide +kernel
theorem zd_Law_law_985 : decode code 985 = .ok (.aload_n 0, 1) := by decide +kernel
theorem zd_Law_law_986 : decode code 986 = .ok (.iload_n 3, 1) := by decide +kernel
theorem zd_Law_law_987 : decode code 987 = .ok (.iconst 1, 1) := by decide +kernel
theorem zd_Law_law_988 : decode code 988 = .ok (.iadd, 1) := by decide +kernel
theorem zd_Law_law_989 : decode code 989 = .ok (.iaload, 1) := by decide +kernel
theorem zd_Law_law_990 : decode code 990 = .ok (.aload_n 0, 1) := by decide +kernel
theorem zd_Law_law_991 : decode code 991 = .ok (.iload_n 3, 1) := by decide +kernel
theorem zd_Law_law_992 : decode code 992 = .ok (.iconst 2, 1) := by decide +kernel
theorem zd_Law_law_993 : decode code 993 = .ok (.iadd, 1) := by decide +kernel
theorem zd_Law_law_994 : decode code 994 = .ok (.iaload, 1) := by decide +kernel
theorem zd_Law_law_995 : decode code 995 = .ok (.aload_n 0, 1) := by decide +kernel
theorem zd_Law_law_996 : decode code 996 = .ok (.iload_n 3, 1) := by decide +kernel
theorem zd_Law_law_997 : decode code 997 = .ok (.iconst 3, 1) := by decide +kernel
theorem zd_Law_law_998 : decode code 998 = .ok (.iadd, 1) := by decide +kernel
theorem zd_Law_law_999 : decode code 999 = .ok (.iaload, 1) := by decide +kernel
theorem zd_Law_law_1000 : decode code 1000 = .ok (.invokevirtual 123, 3) := by decide +kernel
theorem zd_Law_law_1003 : decode code 1003 = .ok (.aload_n 2, 1) := by decide +kernel
theorem zd_Law_law_1004 : decode code 1004 = .ok (.aload_n 0, 1) := by decide +kernel
theorem zd_Law_law_1005 : decode code 1005 = .ok (.iload_n 3, 1) := by decide +kernel
theorem zd_Law_law_1006 : decode code 1006 = .ok (.iconst 1, 1) := by decide +kernel
theorem zd_Law_law_1007 : decode code 1007 = .ok (.iadd, 1) := by decide +kernel
theorem zd_Law_law_1008 : decode code 1008 = .ok (.iaload, 1) := by decide +kernel
theorem zd_Law_law_1009 : decode code 1009 = .ok (.aload_n 0, 1) := by decide +kernel
theorem zd_Law_law_1010 : decode code 1010 = .ok (.iload_n 3, 1) := by decide +kernel
theorem zd_Law_law_1011 : decode code 1011 = .ok (.iconst 2, 1) := by decide +kernel
theorem zd_Law_law_1012 : decode code 1012 = .ok (.iadd, 1) := by decide +kernel
theorem zd_Law_law_1013 : decode code 1013 = .ok (.iaload, 1) := by decide +kernel
theorem zd_Law_law_1014 : decode code 1014 = .ok (.aload_n 0, 1) := by decide +kernel
theorem zd_Law_law_1015 : decode code 1015 = .ok (.iload_n 3, 1) := by decide +kernel
theorem zd_Law_law_1016 : decode code 1016 = .ok (.iconst 3, 1) := by decide +kernel
theorem zd_Law_law_1017 : decode code 1017 = .ok (.iadd, 1) := by decide +kernel
theorem zd_Law_law_1018 : decode code 1018 = .ok (.iaload, 1) := by decide +kernel
theorem zd_Law_law_1019 : decode code 1019 = .ok (.invokevirtual 126, 3) := by decide +kernel
theorem zd_Law_law_1022 : decode code 1022 = .ok (.if_icmp .eq 297, 3) := by decide +kernel
theorem zd_Law_law_1025 : decode code 1025 = .ok (.iconst 0, 1) := by decide +kernel
theorem zd_Law_law_1026 : decode code 1026 = .ok (.ireturn, 1) := by decide +kernel
theorem zd_Law_law_971 : decode code 971 = .ok (.aload_n 1, 1) := by decide +kernel
theorem zd_Law_law_972 : decode code 972 = .ok (.invokevirtual 119, 3) := by decide +kernel
theorem zd_Law_law_975 : decode code 975 = .ok (.aload_n 2, 1) := by decide +kernel
theorem zd_Law_law_976 : decode code 976 = .ok (.invokevirtual 122, 3) := by decide +kernel
theorem zd_Law_law_979 : decode code 979 = .ok (.if_icmp .eq 340, 3) := by decide +kernel
theorem zd_Law_law_982 : decode code 982 = .ok (.iconst 0, 1) := by decide +kernel
theorem zd_Law_law_983 : decode code 983 = .ok (.ireturn, 1) := by decide +kernel
theorem zd_Law_law_958 : decode code 958 = .ok (.aload_n 1, 1) := by decide +kernel
theorem zd_Law_law_959 : decode code 959 = .ok (.invokevirtual 115, 3) := by decide +kernel
theorem zd_Law_law_962 : decode code 962 = .ok (.aload_n 2, 1) := by decide +kernel
theorem zd_Law_law_963 : decode code 963 = .ok (.invokevirtual 118, 3) := by decide +kernel
theorem zd_Law_law_966 : decode code 966 = .ok (.if_icmp .eq 353, 3) := by decide +kernel
theorem zd_Law_law_969 : decode code 969 = .ok (.iconst 0, 1) := by decide +kernel
theorem zd_Law_law_970 : decode code 970 = .ok (.ireturn, 1) := by decide +kernel
theorem zd_Law_law_925 : decode code 925 = .ok (.aload_n 1, 1) := by decide +kernel
theorem zd_Law_law_926 : decode code 926 = .ok (.aload_n 0, 1) := by decide +kernel
theorem zd_Law_law_927 : decode code 927 = .ok (.iload_n 3, 1) := by decide +kernel
theorem zd_Law_law_928 : decode code 928 = .ok (.iconst 1, 1) := by decide +kernel
theorem zd_Law_law_929 : decode code 929 = .ok (.iadd, 1) := by decide +kernel
theorem zd_Law_law_930 : decode code 930 = .ok (.iaload, 1) := by decide +kernel
theorem zd_Law_law_931 : decode code 931 = .ok (.aload_n 0, 1) := by decide +kernel
theorem zd_Law_law_932 : decode code 932 = .ok (.iload_n 3, 1) := by decide +kernel
theorem zd_Law_law_933 : decode code 933 = .ok (.iconst 2, 1) := by decide +kernel
theorem zd_Law_law_934 : decode code 934 = .ok (.iadd, 1) := by decide +kernel
theorem zd_Law_law_935 : decode code 935 = .ok (.iaload, 1) := by decide +kernel
theorem zd_Law_law_936 : decode code 936 = .ok (.invokevirtual 111, 3) := by decide +kernel
theorem zd_Law_law_939 : decode code 939 = .ok (.aload_n 2, 1) := by decide +kernel
theorem zd_Law_law_940 : decode code 940 = .ok (.aload_n 0, 1) := by decide +kernel
theorem zd_Law_law_941 : decode code 941 = .ok (.iload_n 3, 1) := by decide +kernel
theorem zd_Law_law_942 : decode code 942 = .ok (.iconst 1, 1) := by decide +kernel
theorem zd_Law_law_943 : decode code 943 = .ok (.iadd, 1) := by decide +kernel
theorem zd_Law_law_944 : decode code 944 = .ok (.iaload, 1) := by decide +kernel
theorem zd_Law_law_945 : decode code 945 = .ok (.aload_n 0, 1) := by decide +kernel
theorem zd_Law_law_946 : decode code 946 = .ok (.iload_n 3, 1) := by decide +kernel
theorem zd_Law_law_947 : decode code 947 = .ok (.iconst 2, 1) := by decide +kernel
theorem zd_Law_law_948 : decode code 948 = .ok (.iadd, 1) := by decide +kernel
theorem zd_Law_law_949 : decode code 949 = .ok (.iaload, 1) := by decide +kernel
theorem zd_Law_law_950 : decode code 950 = .ok (.invokevirtual 114, 3) := by decide +kernel
theorem zd_Law_law_953 : decode code 953 = .ok (.if_icmp .eq 366, 3) := by decide +kernel
theorem zd_Law_law_956 : decode code 956 = .ok (.iconst 0, 1) := by decide +kernel
theorem zd_Law_law_957 : decode code 957 = .ok (.ireturn, 1) := by decide +kernel
theorem zd_Law_law_912 : decode code 912 = .ok (.aload_n 1, 1) := by decide +kernel
theorem zd_Law_law_913 : decode code 913 = .ok (.invokevirtual 107, 3) := by decide +kernel
theorem zd_Law_law_916 : decode code 916 = .ok (.aload_n 2, 1) := by decide +kernel
theorem zd_Law_law_917 : decode code 917 = .ok (.invokevirtual 110, 3) := by decide +kernel
theorem zd_Law_law_920 : decode code 920 = .ok (.if_icmp .eq 399, 3) := by decide +kernel
theorem zd_Law_law_923 : decode code 923 = .ok (.iconst 0, 1) := by decide +kernel
theorem zd_Law_law_924 : decode code 924 = .ok (.ireturn, 1) := by decide +kernel
theorem zd_Law_law_879 : decode code 879 = .ok (.aload_n 1, 1) := by decide +kernel
theorem zd_Law_law_880 : decode code 880 = .ok (.aload_n 0, 1) := by decide +kernel
theorem zd_Law_law_881 : decode code 881 = .ok (.iload_n 3, 1) := by decide +kernel
theorem zd_Law_law_882 : decode code 882 = .ok (.iconst 1, 1) := by decide +kernel
theorem zd_Law_law_883 : decode code 883 = .ok (.iadd, 1) := by decide +kernel
theorem zd_Law_law_884 : decode code 884 = .ok (.iaload, 1) := by decide +kernel
theorem zd_Law_law_885 : decode code 885 = .ok (.aload_n 0, 1) := by decide +kernel
theorem zd_Law_law_886 : decode code 886 = .ok (.iload_n 3, 1) := by decide +kernel
theorem zd_Law_law_887 : decode code 887 = .ok (.iconst 2, 1) := by decide +kernel
theorem zd_Law_law_888 : decode code 888 = .ok (.iadd, 1) := by decide +kernel
theorem zd_Law_law_889 : decode code 889 = .ok (.iaload, 1) := by decide +kernel
theorem zd_Law_law_890 : decode code 890 = .ok (.invokevirtual 103, 3) := by decide +kernel
theorem zd_Law_law_893 : decode code 893 = .ok (.aload_n 2, 1) := by decide +kernel
theorem zd_Law_law_894 : decode code 894 = .ok (.aload_n 0, 1) := by decide +kernel
theorem zd_Law_law_895 : decode code 895 = .ok (.iload_n 3, 1) := by decide +kernel
theorem zd_Law_law_896 : decode code 896 = .ok (.iconst 1, 1) := by decide +kernel
theorem zd_Law_law_897 : decode code 897 = .ok (.iadd, 1) := by decide +kernel
theorem zd_Law_law_898 : decode code 898 = .ok (.iaload, 1) := by decide +kernel
theorem zd_Law_law_899 : decode code 899 = .ok (.aload_n 0, 1) := by decide +kernel
theorem zd_Law_law_900 : decode code 900 = .ok (.iload_n 3, 1) := by decide +kernel
theorem zd_Law_law_901 : decode code 901 = .ok (.iconst 2, 1) := by decide +kernel
theorem zd_Law_law_902 : decode code 902 = .ok (.iadd, 1) := by decide +kernel
theorem zd_Law_law_903 : decode code 903 = .ok (.iaload, 1) := by decide +kernel
theorem zd_Law_law_904 : decode code 904 = .ok (.invokevirtual 106, 3) := by decide +kernel
theorem zd_Law_law_907 : decode code 907 = .ok (.if_icmp .eq 412, 3) := by decide +kernel
theorem zd_Law_law_910 : decode code 910 = .ok (.iconst 0, 1) := by decide +kernel
theorem zd_Law_law_911 : decode code 911 = .ok (.ireturn, 1) := by decide +kernel
theorem zd_Law_law_856 : decode code 856 = .ok (.aload_n 1, 1) := by decide +kernel
theorem zd_Law_law_857 : decode code 857 = .ok (.aload_n 0, 1) := by decide +kernel
theorem zd_Law_law_858 : decode code 858 = .ok (.iload_n 3, 1) := by decide +kernel
theorem zd_Law_law_859 : decode code 859 = .ok (.iconst 1, 1) := by decide +kernel
theorem zd_Law_law_860 : decode code 860 = .ok (.iadd, 1) := by decide +kernel
theorem zd_Law_law_861 : decode code 861 = .ok (.iaload, 1) := by decide +kernel
theorem zd_Law_law_862 : decode code 862 = .ok (.invokevirtual 99, 3) := by decide +kernel
theorem zd_Law_law_865 : decode code 865 = .ok (.aload_n 2, 1) := by decide +kernel
theorem zd_Law_law_866 : decode code 866 = .ok (.aload_n 0, 1) := by decide +kernel
theorem zd_Law_law_867 : decode code 867 = .ok (.iload_n 3, 1) := by decide +kernel
theorem zd_Law_law_868 : decode code 868 = .ok (.iconst 1, 1) := by decide +kernel
theorem zd_Law_law_869 : decode code 869 = .ok (.iadd, 1) := by decide +kernel
theorem zd_Law_law_870 : decode code 870 = .ok (.iaload, 1) := by decide +kernel
theorem zd_Law_law_871 : decode code 871 = .ok (.invokevirtual 102, 3) := by decide +kernel
theorem zd_Law_law_874 : decode code 874 = .ok (.if_icmp .eq 445, 3) := by decide +kernel
theorem zd_Law_law_877 : decode code 877 = .ok (.iconst 0, 1) := by decide +kernel
theorem zd_Law_law_878 : decode code 878 = .ok (.ireturn, 1) := by decide +kernel
theorem zd_Law_law_823 : decode code 823 = .ok (.aload_n 1, 1) := by decide +kernel
theorem zd_Law_law_824 : decode code 824 = .ok (.aload_n 0, 1) := by decide +kernel
theorem zd_Law_law_825 : decode code 825 = .ok (.iload_n 3, 1) := by decide +kernel
theorem zd_Law_law_826 : decode code 826 = .ok (.iconst 1, 1) := by decide +kernel
theorem zd_Law_law_827 : decode code 827 = .ok (.iadd, 1) := by decide +kernel
theorem zd_Law_law_828 : decode code 828 = .ok (.iaload, 1) := by decide +kernel
theorem zd_Law_law_829 : decode code 829 = .ok (.aload_n 0, 1) := by decide +kernel
theorem zd_Law_law_830 : decode code 830 = .ok (.iload_n 3, 1) := by decide +kernel
theorem zd_Law_law_831 : decode code 831 = .ok (.iconst 2, 1) := by decide +kernel
theorem zd_Law_law_832 : decode code 832 = .ok (.iadd, 1) := by decide +kernel
theorem zd_Law_law_833 : decode code 833 = .ok (.iaload, 1) := by decide +kernel
theorem zd_Law_law_834 : decode code 834 = .ok (.invokevirtual 95, 3) := by decide +kernel
theorem zd_Law_law_837 : decode code 837 = .ok (.aload_n 2, 1) := by decide +kernel
theorem zd_Law_law_838 : decode code 838 = .ok (.aload_n 0, 1) := by decide +kernel
theorem zd_Law_law_839 : decode code 839 = .ok (.iload_n 3, 1) := by decide +kernel
theorem zd_Law_law_840 : decode code 840 = .ok (.iconst 1, 1) := by decide +kernel
theorem zd_Law_law_841 : decode code 841 = .ok (.iadd, 1) := by decide +kernel
theorem zd_Law_law_842 : decode code 842 = .ok (.iaload, 1) := by decide +kernel
theorem zd_Law_law_843 : decode code 843 = .ok (.aload_n 0, 1) := by decide +kernel
theorem zd_Law_law_844 : decode code 844 = .ok (.iload_n 3, 1) := by decide +kernel
theorem zd_Law_law_845 : decode code 845 = .ok (.iconst 2, 1) := by decide +kernel
theorem zd_Law_law_846 : decode code 846 = .ok (.iadd, 1) := by decide +kernel
theorem zd_Law_law_847 : decode code 847 = .ok (.iaload, 1) := by decide +kernel
theorem zd_Law_law_848 : decode code 848 = .ok (.invokevirtual 98, 3) := by decide +kernel
theorem zd_Law_law_851 : decode code 851 = .ok (.if_icmp .eq 468, 3) := by decide +kernel
theorem zd_Law_law_854 : decode code 854 = .ok (.iconst 0, 1) := by decide +kernel
theorem zd_Law_law_855 : decode code 855 = .ok (.ireturn, 1) := by decide +kernel
theorem zd_Law_law_789 : decode code 789 = .ok (.aload_n 1, 1) := by decide +kernel
theorem zd_Law_law_790 : decode code 790 = .ok (.aload_n 0, 1) := by decide +kernel
theorem zd_Law_law_791 : decode code 791 = .ok (.iload_n 3, 1) := by decide +kernel
theorem zd_Law_law_792 : decode code 792 = .ok (.iconst 1, 1) := by decide +kernel
theorem zd_Law_law_793 : decode code 793 = .ok (.iadd, 1) := by decide +kernel
theorem zd_Law_law_794 : decode code 794 = .ok (.iaload, 1) := by decide +kernel
theorem zd_Law_law_795 : decode code 795 = .ok (.aload_n 0, 1) := by decide +kernel
theorem zd_Law_law_796 : decode code 796 = .ok (.iload_n 3, 1) := by decide +kernel
theorem zd_Law_law_797 : decode code 797 = .ok (.iconst 2, 1) := by decide +kernel
theorem zd_Law_law_798 : decode code 798 = .ok (.iadd, 1) := by decide +kernel
theorem zd_Law_law_799 : decode code 799 = .ok (.iaload, 1) := by decide +kernel
theorem zd_Law_law_800 : decode code 800 = .ok (.invokevirtual 90, 3) := by decide +kernel
theorem zd_Law_law_803 : decode code 803 = .ok (.aload_n 2, 1) := by decide +kernel
theorem zd_Law_law_804 : decode code 804 = .ok (.aload_n 0, 1) := by decide +kernel
theorem zd_Law_law_805 : decode code 805 = .ok (.iload_n 3, 1) := by decide +kernel
theorem zd_Law_law_806 : decode code 806 = .ok (.iconst 1, 1) := by decide +kernel
theorem zd_Law_law_807 : decode code 807 = .ok (.iadd, 1) := by decide +kernel
theorem zd_Law_law_808 : decode code 808 = .ok (.iaload, 1) := by decide +kernel
theorem zd_Law_law_809 : decode code 809 = .ok (.aload_n 0, 1) := by decide +kernel
theorem zd_Law_law_810 : decode code 810 = .ok (.iload_n 3, 1) := by decide +kernel
theorem zd_Law_law_811 : decode code 811 = .ok (.iconst 2, 1) := by decide +kernel
theorem zd_Law_law_812 : decode code 812 = .ok (.iadd, 1) := by decide +kernel
theorem zd_Law_law_813 : decode code 813 = .ok (.iaload, 1) := by decide +kernel
theorem zd_Law_law_814 : decode code 814 = .ok (.invokevirtual 94, 3) := by decide +kernel
theorem zd_Law_law_817 : decode code 817 = .ok (.lcmp, 1) := by decide +kernel
theorem zd_Law_law_818 : decode code 818 = .ok (.ifCond .eq 501, 3) := by decide +kernel
theorem zd_Law_law_821 : decode code 821 = .ok (.iconst 0, 1) := by decide +kernel
theorem zd_Law_law_822 : decode code 822 = .ok (.ireturn, 1) := by decide +kernel
theorem zd_Law_law_745 : decode code 745 = .ok (.aload_n 1, 1) := by decide +kernel
theorem zd_Law_law_746 : decode code 746 = .ok (.aload_n 0, 1) := by decide +kernel
theorem zd_Law_law_747 : decode code 747 = .ok (.iload_n 3, 1) := by decide +kernel
theorem zd_Law_law_748 : decode code 748 = .ok (.iconst 1, 1) := by decide +kernel
theorem zd_Law_law_749 : decode code 749 = .ok (.iadd, 1) := by decide +kernel
theorem zd_Law_law_750 : decode code 750 = .ok (.iaload, 1) := by decide +kernel
theorem zd_Law_law_751 : decode code 751 = .ok (.aload_n 0, 1) := by decide +kernel
theorem zd_Law_law_752 : decode code 752 = .ok (.iload_n 3, 1) := by decide +kernel
theorem zd_Law_law_753 : decode code 753 = .ok (.iconst 2, 1) := by decide +kernel
theorem zd_Law_law_754 : decode code 754 = .ok (.iadd, 1) := by decide +kernel
theorem zd_Law_law_755 : decode code 755 = .ok (.iaload, 1) := by decide +kernel
theorem zd_Law_law_756 : decode code 756 = .ok (.aload_n 0, 1) := by decide +kernel
theorem zd_Law_law_757 : decode code 757 = .ok (.iload_n 3, 1) := by decide +kernel
theorem zd_Law_law_758 : decode code 758 = .ok (.iconst 3, 1) := by decide +kernel
theorem zd_Law_law_759 : decode code 759 = .ok (.iadd, 1) := by decide +kernel
theorem zd_Law_law_760 : decode code 760 = .ok (.iaload, 1) := by decide +kernel
theorem zd_Law_law_761 : decode code 761 = .ok (.invokevirtual 85, 3) := by decide +kernel
theorem zd_Law_law_764 : decode code 764 = .ok (.aload_n 2, 1) := by decide +kernel
theorem zd_Law_law_765 : decode code 765 = .ok (.aload_n 0, 1) := by decide +kernel
theorem zd_Law_law_766 : decode code 766 = .ok (.iload_n 3, 1) := by decide +kernel
theorem zd_Law_law_767 : decode code 767 = .ok (.iconst 1, 1) := by decide +kernel
theorem zd_Law_law_768 : decode code 768 = .ok (.iadd, 1) := by decide +kernel
theorem zd_Law_law_769 : decode code 769 = .ok (.iaload, 1) := by decide +kernel
theorem zd_Law_law_770 : decode code 770 = .ok (.aload_n 0, 1) := by decide +kernel
theorem zd_Law_law_771 : decode code 771 = .ok (.iload_n 3, 1) := by decide +kernel
theorem zd_Law_law_772 : decode code 772 = .ok (.iconst 2, 1) := by decide +kernel
theorem zd_Law_law_773 : decode code 773 = .ok (.iadd, 1) := by decide +kernel
theorem zd_Law_law_774 : decode code 774 = .ok (.iaload, 1) := by decide +kernel
theorem zd_Law_law_775 : decode code 775 = .ok (.aload_n 0, 1) := by decide +kernel
theorem zd_Law_law_776 : decode code 776 = .ok (.iload_n 3, 1) := by decide +kernel
theorem zd_Law_law_777 : decode code 777 = .ok (.iconst 3, 1) := by decide +kernel
theorem zd_Law_law_778 : decode code 778 = .ok (.iadd, 1) := by decide +kernel
theorem zd_Law_law_779 : decode code 779 = .ok (.iaload, 1) := by decide +kernel
theorem zd_Law_law_780 : decode code 780 = .ok (.invokevirtual 89, 3) := by decide +kernel
theorem zd_Law_law_783 : decode code 783 = .ok (.lcmp, 1) := by decide +kernel
theorem zd_Law_law_784 : decode code 784 = .ok (.ifCond .eq 535, 3) := by decide +kernel
theorem zd_Law_law_787 : decode code 787 = .ok (.iconst 0, 1) := by decide +kernel
theorem zd_Law_law_788 : decode code 788 = .ok (.ireturn, 1) := by decide +kernel
theorem zd_Law_law_712 : decode code 712 = .ok (.aload_n 1, 1) := by decide +kernel
theorem zd_Law_law_713 : decode code 713 = .ok (.aload_n 0, 1) := by decide +kernel
theorem zd_Law_law_714 : decode code 714 = .ok (.iload_n 3, 1) := by decide +kernel
theorem zd_Law_law_715 : decode code 715 = .ok (.iconst 1, 1) := by decide +kernel
theorem zd_Law_law_716 : decode code 716 = .ok (.iadd, 1) := by decide +kernel
theorem zd_Law_law_717 : decode code 717 = .ok (.iaload, 1) := by decide +kernel
theorem zd_Law_law_718 : decode code 718 = .ok (.aload_n 0, 1) := by decide +kernel
theorem zd_Law_law_719 : decode code 719 = .ok (.iload_n 3, 1) := by decide +kernel
theorem zd_Law_law_720 : decode code 720 = .ok (.iconst 2, 1) := by decide +kernel
theorem zd_Law_law_721 : decode code 721 = .ok (.iadd, 1) := by decide +kernel
theorem zd_Law_law_722 : decode code 722 = .ok (.iaload, 1) := by decide +kernel
theorem zd_Law_law_723 : decode code 723 = .ok (.invokevirtual 81, 3) := by decide +kernel
theorem zd_Law_law_726 : decode code 726 = .ok (.aload_n 2, 1) := by decide +kernel
theorem zd_Law_law_727 : decode code 727 = .ok (.aload_n 0, 1) := by decide +kernel
theorem zd_Law_law_728 : decode code 728 = .ok (.iload_n 3, 1) := by decide +kernel
theorem zd_Law_law_729 : decode code 729 = .ok (.iconst 1, 1) := by decide +kernel
theorem zd_Law_law_730 : decode code 730 = .ok (.iadd, 1) := by decide +kernel
theorem zd_Law_law_731 : decode code 731 = .ok (.iaload, 1) := by decide +kernel
theorem zd_Law_law_732 : decode code 732 = .ok (.aload_n 0, 1) := by decide +kernel
theorem zd_Law_law_733 : decode code 733 = .ok (.iload_n 3, 1) := by decide +kernel
theorem zd_Law_law_734 : decode code 734 = .ok (.iconst 2, 1) := by decide +kernel
theorem zd_Law_law_735 : decode code 735 = .ok (.iadd, 1) := by decide +kernel
theorem zd_Law_law_736 : decode code 736 = .ok (.iaload, 1) := by decide +kernel
theorem zd_Law_law_737 : decode code 737 = .ok (.invokevirtual 84, 3) := by decide +kernel
theorem zd_Law_law_740 : decode code 740 = .ok (.if_icmp .eq 579, 3) := by decide +kernel
theorem zd_Law_law_743 : decode code 743 = .ok (.iconst 0, 1) := by decide +kernel
theorem zd_Law_law_744 : decode code 744 = .ok (.ireturn, 1) := by decide +kernel
theorem zd_Law_law_679 : decode code 679 = .ok (.aload_n 1, 1) := by decide +kernel
theorem zd_Law_law_680 : decode code 680 = .ok (.aload_n 0, 1) := by decide +kernel
theorem zd_Law_law_681 : decode code 681 = .ok (.iload_n 3, 1) := by decide +kernel
theorem zd_Law_law_682 : decode code 682 = .ok (.iconst 1, 1) := by decide +kernel
theorem zd_Law_law_683 : decode code 683 = .ok (.iadd, 1) := by decide +kernel
theorem zd_Law_law_684 : decode code 684 = .ok (.iaload, 1) := by decide +kernel
theorem zd_Law_law_685 : decode code 685 = .ok (.aload_n 0, 1) := by decide +kernel
theorem zd_Law_law_686 : decode code 686 = .ok (.iload_n 3, 1) := by decide +kernel
theorem zd_Law_law_687 : decode code 687 = .ok (.iconst 2, 1) := by decide +kernel
theorem zd_Law_law_688 : decode code 688 = .ok (.iadd, 1) := by decide +kernel
theorem zd_Law_law_689 : decode code 689 = .ok (.iaload, 1) := by decide +kernel
theorem zd_Law_law_690 : decode code 690 = .ok (.invokevirtual 77, 3) := by decide +kernel
theorem zd_Law_law_693 : decode code 693 = .ok (.aload_n 2, 1) := by decide +kernel
theorem zd_Law_law_694 : decode code 694 = .ok (.aload_n 0, 1) := by decide +kernel
theorem zd_Law_law_695 : decode code 695 = .ok (.iload_n 3, 1) := by decide +kernel
theorem zd_Law_law_696 : decode code 696 = .ok (.iconst 1, 1) := by decide +kernel
theorem zd_Law_law_697 : decode code 697 = .ok (.iadd, 1) := by decide +kernel
theorem zd_Law_law_698 : decode code 698 = .ok (.iaload, 1) := by decide +kernel
theorem zd_Law_law_699 : decode code 699 = .ok (.aload_n 0, 1) := by decide +kernel
theorem zd_Law_law_700 : decode code 700 = .ok (.iload_n 3, 1) := by decide +kernel
theorem zd_Law_law_701 : decode code 701 = .ok (.iconst 2, 1) := by decide +kernel
theorem zd_Law_law_702 : decode code 702 = .ok (.iadd, 1) := by decide +kernel
theorem zd_Law_law_703 : decode code 703 = .ok (.iaload, 1) := by decide +kernel
theorem zd_Law_law_704 : decode code 704 = .ok (.invokevirtual 80, 3) := by decide +kernel
theorem zd_Law_law_707 : decode code 707 = .ok (.if_icmp .eq 612, 3) := by decide +kernel
theorem zd_Law_law_710 : decode code 710 = .ok (.iconst 0, 1) := by decide +kernel
theorem zd_Law_law_711 : decode code 711 = .ok (.ireturn, 1) := by decide +kernel
theorem zd_Law_law_636 : decode code 636 = .ok (.aload_n 1, 1) := by decide +kernel
theorem zd_Law_law_637 : decode code 637 = .ok (.aload_n 0, 1) := by decide +kernel
theorem zd_Law_law_638 : decode code 638 = .ok (.iload_n 3, 1) := by decide +kernel
theorem zd_Law_law_639 : decode code 639 = .ok (.iconst 1, 1) := by decide +kernel
theorem zd_Law_law_640 : decode code 640 = .ok (.iadd, 1) := by decide +kernel
theorem zd_Law_law_641 : decode code 641 = .ok (.iaload, 1) := by decide +kernel
theorem zd_Law_law_642 : decode code 642 = .ok (.aload_n 0, 1) := by decide +kernel
theorem zd_Law_law_643 : decode code 643 = .ok (.iload_n 3, 1) := by decide +kernel
theorem zd_Law_law_644 : decode code 644 = .ok (.iconst 2, 1) := by decide +kernel
theorem zd_Law_law_645 : decode code 645 = .ok (.iadd, 1) := by decide +kernel
theorem zd_Law_law_646 : decode code 646 = .ok (.iaload, 1) := by decide +kernel
theorem zd_Law_law_647 : decode code 647 = .ok (.aload_n 0, 1) := by decide +kernel
theorem zd_Law_law_648 : decode code 648 = .ok (.iload_n 3, 1) := by decide +kernel
theorem zd_Law_law_649 : decode code 649 = .ok (.iconst 3, 1) := by decide +kernel
theorem zd_Law_law_650 : decode code 650 = .ok (.iadd, 1) := by decide +kernel
theorem zd_Law_law_651 : decode code 651 = .ok (.iaload, 1) := by decide +kernel
theorem zd_Law_law_652 : decode code 652 = .ok (.invokevirtual 73, 3) := by decide +kernel
theorem zd_Law_law_655 : decode code 655 = .ok (.aload_n 2, 1) := by decide +kernel
theorem zd_Law_law_656 : decode code 656 = .ok (.aload_n 0, 1) := by decide +kernel
theorem zd_Law_law_657 : decode code 657 = .ok (.iload_n 3, 1) := by decide +kernel
theorem zd_Law_law_658 : decode code 658 = .ok (.iconst 1, 1) := by decide +kernel
theorem zd_Law_law_659 : decode code 659 = .ok (.iadd, 1) := by decide +kernel
theorem zd_Law_law_660 : decode code 660 = .ok (.iaload, 1) := by decide +kernel
theorem zd_Law_law_661 : decode code 661 = .ok (.aload_n 0, 1) := by decide +kernel
theorem zd_Law_law_662 : decode code 662 = .ok (.iload_n 3, 1) := by decide +kernel
theorem zd_Law_law_663 : decode code 663 = .ok (.iconst 2, 1) := by decide +kernel
theorem zd_Law_law_664 : decode code 664 = .ok (.iadd, 1) := by decide +kernel
theorem zd_Law_law_665 : decode code 665 = .ok (.iaload, 1) := by decide +kernel
theorem zd_Law_law_666 : decode code 666 = .ok (.aload_n 0, 1) := by decide +kernel
theorem zd_Law_law_667 : decode code 667 = .ok (.iload_n 3, 1) := by decide +kernel
theorem zd_Law_law_668 : decode code 668 = .ok (.iconst 3, 1) := by decide +kernel
theorem zd_Law_law_669 : decode code 669 = .ok (.iadd, 1) := by decide +kernel
theorem zd_Law_law_670 : decode code 670 = .ok (.iaload, 1) := by decide +kernel
theorem zd_Law_law_671 : decode code 671 = .ok (.invokevirtual 76, 3) := by decide +kernel
theorem zd_Law_law_674 : decode code 674 = .ok (.if_icmp .eq 645, 3) := by decide +kernel
theorem zd_Law_law_677 : decode code 677 = .ok (.iconst 0, 1) := by decide +kernel
theorem zd_Law_law_678 : decode code 678 = .ok (.ireturn, 1) := by decide +kernel
theorem zd_Law_law_593 : decode code 593 = .ok (.aload_n 1, 1) := by decide +kernel
theorem zd_Law_law_594 : decode code 594 = .ok (.aload_n 0, 1) := by decide +kernel
theorem zd_Law_law_595 : decode code 595 = .ok (.iload_n 3, 1) := by decide +kernel
theorem zd_Law_law_596 : decode code 596 = .ok (.iconst 1, 1) := by decide +kernel
theorem zd_Law_law_597 : decode code 597 = .ok (.iadd, 1) := by decide +kernel
theorem zd_Law_law_598 : decode code 598 = .ok (.iaload, 1) := by decide +kernel
theorem zd_Law_law_599 : decode code 599 = .ok (.aload_n 0, 1) := by decide +kernel
theorem zd_Law_law_600 : decode code 600 = .ok (.iload_n 3, 1) := by decide +kernel
theorem zd_Law_law_601 : decode code 601 = .ok (.iconst 2, 1) := by decide +kernel
theorem zd_Law_law_602 : decode code 602 = .ok (.iadd, 1) := by decide +kernel
theorem zd_Law_law_603 : decode code 603 = .ok (.iaload, 1) := by decide +kernel
theorem zd_Law_law_604 : decode code 604 = .ok (.aload_n 0, 1) := by decide +kernel
theorem zd_Law_law_605 : decode code 605 = .ok (.iload_n 3, 1) := by decide +kernel
theorem zd_Law_law_606 : decode code 606 = .ok (.iconst 3, 1) := by decide +kernel
theorem zd_Law_law_607 : decode code 607 = .ok (.iadd, 1) := by decide +kernel
theorem zd_Law_law_608 : decode code 608 = .ok (.iaload, 1) := by decide +kernel
theorem zd_Law_law_609 : decode code 609 = .ok (.invokevirtual 69, 3) := by decide +kernel
theorem zd_Law_law_612 : decode code 612 = .ok (.aload_n 2, 1) := by decide +kernel
theorem zd_Law_law_613 : decode code 613 = .ok (.aload_n 0, 1) := by decide +kernel
theorem zd_Law_law_614 : decode code 614 = .ok (.iload_n 3, 1) := by decide +kernel
theorem zd_Law_law_615 : decode code 615 = .ok (.iconst 1, 1) := by decide +kernel
theorem zd_Law_law_616 : decode code 616 = .ok (.iadd, 1) := by decide +kernel
theorem zd_Law_law_617 : decode code 617 = .ok (.iaload, 1) := by decide +kernel
theorem zd_Law_law_618 : decode code 618 = .ok (.aload_n 0, 1) := by decide +kernel
theorem zd_Law_law_619 : decode code 619 = .ok (.iload_n 3, 1) := by decide +kernel
theorem zd_Law_law_620 : decode code 620 = .ok (.iconst 2, 1) := by decide +kernel
theorem zd_Law_law_621 : decode code 621 = .ok (.iadd, 1) := by decide +kernel
theorem zd_Law_law_622 : decode code 622 = .ok (.iaload, 1) := by decide +kernel
theorem zd_Law_law_623 : decode code 623 = .ok (.aload_n 0, 1) := by decide +kernel
theorem zd_Law_law_624 : decode code 624 = .ok (.iload_n 3, 1) := by decide +kernel
theorem zd_Law_law_625 : decode code 625 = .ok (.iconst 3, 1) := by decide +kernel
theorem zd_Law_law_626 : decode code 626 = .ok (.iadd, 1) := by decide +kernel
theorem zd_Law_law_627 : decode code 627 = .ok (.iaload, 1) := by decide +kernel
theorem zd_Law_law_628 : decode code 628 = .ok (.invokevirtual 72, 3) := by decide +kernel
theorem zd_Law_law_631 : decode code 631 = .ok (.if_icmp .eq 688, 3) := by decide +kernel
theorem zd_Law_law_634 : decode code 634 = .ok (.iconst 0, 1) := by decide +kernel
theorem zd_Law_law_635 : decode code 635 = .ok (.ireturn, 1) := by decide +kernel
theorem zd_Law_law_570 : decode code 570 = .ok (.aload_n 1, 1) := by decide +kernel
theorem zd_Law_law_571 : decode code 571 = .ok (.aload_n 0, 1) := by decide +kernel
theorem zd_Law_law_572 : decode code 572 = .ok (.iload_n 3, 1) := by decide +kernel
theorem zd_Law_law_573 : decode code 573 = .ok (.iconst 1, 1) := by decide +kernel
theorem zd_Law_law_574 : decode code 574 = .ok (.iadd, 1) := by decide +kernel
theorem zd_Law_law_575 : decode code 575 = .ok (.iaload, 1) := by decide +kernel
theorem zd_Law_law_576 : decode code 576 = .ok (.invokevirtual 65, 3) := by decide +kernel
theorem zd_Law_law_579 : decode code 579 = .ok (.aload_n 2, 1) := by decide +kernel
theorem zd_Law_law_580 : decode code 580 = .ok (.aload_n 0, 1) := by decide +kernel
theorem zd_Law_law_581 : decode code 581 = .ok (.iload_n 3, 1) := by decide +kernel
theorem zd_Law_law_582 : decode code 582 = .ok (.iconst 1, 1) := by decide +kernel
theorem zd_Law_law_583 : decode code 583 = .ok (.iadd, 1) := by decide +kernel
theorem zd_Law_law_584 : decode code 584 = .ok (.iaload, 1) := by decide +kernel
theorem zd_Law_law_585 : decode code 585 = .ok (.invokevirtual 68, 3) := by decide +kernel
theorem zd_Law_law_588 : decode code 588 = .ok (.if_icmp .eq 731, 3) := by decide +kernel
theorem zd_Law_law_591 : decode code 591 = .ok (.iconst 0, 1) := by decide +kernel
theorem zd_Law_law_592 : decode code 592 = .ok (.ireturn, 1) := by decide +kernel
theorem zd_Law_law_537 : decode code 537 = .ok (.aload_n 1, 1) := by decide +kernel
theorem zd_Law_law_538 : decode code 538 = .ok (.aload_n 0, 1) := by decide +kernel
theorem zd_Law_law_539 : decode code 539 = .ok (.iload_n 3, 1) := by decide +kernel
theorem zd_Law_law_540 : decode code 540 = .ok (.iconst 1, 1) := by decide +kernel
theorem zd_Law_law_541 : decode code 541 = .ok (.iadd, 1) := by decide +kernel
theorem zd_Law_law_542 : decode code 542 = .ok (.iaload, 1) := by decide +kernel
theorem zd_Law_law_543 : decode code 543 = .ok (.aload_n 0, 1) := by decide +kernel
theorem zd_Law_law_544 : decode code 544 = .ok (.iload_n 3, 1) := by decide +kernel
theorem zd_Law_law_545 : decode code 545 = .ok (.iconst 2, 1) := by decide +kernel
theorem zd_Law_law_546 : decode code 546 = .ok (.iadd, 1) := by decide +kernel
theorem zd_Law_law_547 : decode code 547 = .ok (.iaload, 1) := by decide +kernel
theorem zd_Law_law_548 : decode code 548 = .ok (.invokevirtual 61, 3) := by decide +kernel
theorem zd_Law_law_551 : decode code 551 = .ok (.aload_n 2, 1) := by decide +kernel
theorem zd_Law_law_552 : decode code 552 = .ok (.aload_n 0, 1) := by decide +kernel
theorem zd_Law_law_553 : decode code 553 = .ok (.iload_n 3, 1) := by decide +kernel
theorem zd_Law_law_554 : decode code 554 = .ok (.iconst 1, 1) := by decide +kernel
theorem zd_Law_law_555 : decode code 555 = .ok (.iadd, 1) := by decide +kernel
theorem zd_Law_law_556 : decode code 556 = .ok (.iaload, 1) := by decide +kernel
theorem zd_Law_law_557 : decode code 557 = .ok (.aload_n 0, 1) := by decide +kernel
theorem zd_Law_law_558 : decode code 558 = .ok (.iload_n 3, 1) := by decide +kernel
theorem zd_Law_law_559 : decode code 559 = .ok (.iconst 2, 1) := by decide +kernel
theorem zd_Law_law_560 : decode code 560 = .ok (.iadd, 1) := by decide +kernel
theorem zd_Law_law_561 : decode code 561 = .ok (.iaload, 1) := by decide +kernel
theorem zd_Law_law_562 : decode code 562 = .ok (.invokevirtual 64, 3) := by decide +kernel
theorem zd_Law_law_565 : decode code 565 = .ok (.if_icmp .eq 754, 3) := by decide +kernel
theorem zd_Law_law_568 : decode code 568 = .ok (.iconst 0, 1) := by decide +kernel
theorem zd_Law_law_569 : decode code 569 = .ok (.ireturn, 1) := by decide +kernel
theorem zd_Law_law_514 : decode code 514 = .ok (.aload_n 1, 1) := by decide +kernel
theorem zd_Law_law_515 : decode code 515 = .ok (.aload_n 0, 1) := by decide +kernel
theorem zd_Law_law_516 : decode code 516 = .ok (.iload_n 3, 1) := by decide +kernel
theorem zd_Law_law_517 : decode code 517 = .ok (.iconst 1, 1) := by decide +kernel
theorem zd_Law_law_518 : decode code 518 = .ok (.iadd, 1) := by decide +kernel
theorem zd_Law_law_519 : decode code 519 = .ok (.iaload, 1) := by decide +kernel
theorem zd_Law_law_520 : decode code 520 = .ok (.invokevirtual 57, 3) := by decide +kernel
theorem zd_Law_law_523 : decode code 523 = .ok (.aload_n 2, 1) := by decide +kernel
theorem zd_Law_law_524 : decode code 524 = .ok (.aload_n 0, 1) := by decide +kernel
theorem zd_Law_law_525 : decode code 525 = .ok (.iload_n 3, 1) := by decide +kernel
theorem zd_Law_law_526 : decode code 526 = .ok (.iconst 1, 1) := by decide +kernel
theorem zd_Law_law_527 : decode code 527 = .ok (.iadd, 1) := by decide +kernel
theorem zd_Law_law_528 : decode code 528 = .ok (.iaload, 1) := by decide +kernel
theorem zd_Law_law_529 : decode code 529 = .ok (.invokevirtual 60, 3) := by decide +kernel
theorem zd_Law_law_532 : decode code 532 = .ok (.if_icmp .eq 787, 3) := by decide +kernel
theorem zd_Law_law_535 : decode code 535 = .ok (.iconst 0, 1) := by decide +kernel
theorem zd_Law_law_536 : decode code 536 = .ok (.ireturn, 1) := by decide +kernel
theorem zd_Law_law_491 : decode code 491 = .ok (.aload_n 1, 1) := by decide +kernel
theorem zd_Law_law_492 : decode code 492 = .ok (.aload_n 0, 1) := by decide +kernel
theorem zd_Law_law_493 : decode code 493 = .ok (.iload_n 3, 1) := by decide +kernel
theorem zd_Law_law_494 : decode code 494 = .ok (.iconst 1, 1) := by decide +kernel
theorem zd_Law_law_495 : decode code 495 = .ok (.iadd, 1) := by decide +kernel
theorem zd_Law_law_496 : decode code 496 = .ok (.iaload, 1) := by decide +kernel
theorem zd_Law_law_497 : decode code 497 = .ok (.invokevirtual 53, 3) := by decide +kernel
theorem zd_Law_law_500 : decode code 500 = .ok (.aload_n 2, 1) := by decide +kernel
theorem zd_Law_law_501 : decode code 501 = .ok (.aload_n 0, 1) := by decide +kernel
theorem zd_Law_law_502 : decode code 502 = .ok (.iload_n 3, 1) := by decide +kernel
theorem zd_Law_law_503 : decode code 503 = .ok (.iconst 1, 1) := by decide +kernel
theorem zd_Law_law_504 : decode code 504 = .ok (.iadd, 1) := by decide +kernel
theorem zd_Law_law_505 : decode code 505 = .ok (.iaload, 1) := by decide +kernel
theorem zd_Law_law_506 : decode code 506 = .ok (.invokevirtual 56, 3) := by decide +kernel
theorem zd_Law_law_509 : decode code 509 = .ok (.if_icmp .eq 810, 3) := by decide +kernel
theorem zd_Law_law_512 : decode code 512 = .ok (.iconst 0, 1) := by decide +kernel
theorem zd_Law_law_513 : decode code 513 = .ok (.ireturn, 1) := by decide +kernel
theorem zd_Law_law_478 : decode code 478 = .ok (.aload_n 1, 1) := by decide +kernel
theorem zd_Law_law_479 : decode code 479 = .ok (.invokevirtual 48, 3) := by decide +kernel
theorem zd_Law_law_482 : decode code 482 = .ok (.aload_n 2, 1) := by decide +kernel
theorem zd_Law_law_483 : decode code 483 = .ok (.invokevirtual 52, 3) := by decide +kernel
theorem zd_Law_law_486 : decode code 486 = .ok (.if_icmp .eq 833, 3) := by decide +kernel
theorem zd_Law_law_489 : decode code 489 = .ok (.iconst 0, 1) := by decide +kernel
theorem zd_Law_law_490 : decode code 490 = .ok (.ireturn, 1) := by decide +kernel
theorem zd_Law_law_455 : decode code 455 = .ok (.aload_n 1, 1) := by decide +kernel
theorem zd_Law_law_456 : decode code 456 = .ok (.aload_n 0, 1) := by decide +kernel
theorem zd_Law_law_457 : decode code 457 = .ok (.iload_n 3, 1) := by decide +kernel
theorem zd_Law_law_458 : decode code 458 = .ok (.iconst 1, 1) := by decide +kernel
theorem zd_Law_law_459 : decode code 459 = .ok (.iadd, 1) := by decide +kernel
theorem zd_Law_law_460 : decode code 460 = .ok (.iaload, 1) := by decide +kernel
theorem zd_Law_law_461 : decode code 461 = .ok (.invokevirtual 43, 3) := by decide +kernel
theorem zd_Law_law_464 : decode code 464 = .ok (.aload_n 2, 1) := by decide +kernel
theorem zd_Law_law_465 : decode code 465 = .ok (.aload_n 0, 1) := by decide +kernel
theorem zd_Law_law_466 : decode code 466 = .ok (.iload_n 3, 1) := by decide +kernel
theorem zd_Law_law_467 : decode code 467 = .ok (.iconst 1, 1) := by decide +kernel
theorem zd_Law_law_468 : decode code 468 = .ok (.iadd, 1) := by decide +kernel
theorem zd_Law_law_469 : decode code 469 = .ok (.iaload, 1) := by decide +kernel
theorem zd_Law_law_470 : decode code 470 = .ok (.invokevirtual 47, 3) := by decide +kernel
theorem zd_Law_law_473 : decode code 473 = .ok (.if_icmp .eq 846, 3) := by decide +kernel
theorem zd_Law_law_476 : decode code 476 = .ok (.iconst 0, 1) := by decide +kernel
theorem zd_Law_law_477 : decode code 477 = .ok (.ireturn, 1) := by decide +kernel
theorem zd_Law_law_412 : decode code 412 = .ok (.aload_n 1, 1) := by decide +kernel
theorem zd_Law_law_413 : decode code 413 = .ok (.aload_n 0, 1) := by decide +kernel
theorem zd_Law_law_414 : decode code 414 = .ok (.iload_n 3, 1) := by decide +kernel
theorem zd_Law_law_415 : decode code 415 = .ok (.iconst 1, 1) := by decide +kernel
theorem zd_Law_law_416 : decode code 416 = .ok (.iadd, 1) := by decide +kernel
theorem zd_Law_law_417 : decode code 417 = .ok (.iaload, 1) := by decide +kernel
theorem zd_Law_law_418 : decode code 418 = .ok (.aload_n 0, 1) := by decide +kernel
theorem zd_Law_law_419 : decode code 419 = .ok (.iload_n 3, 1) := by decide +kernel
theorem zd_Law_law_420 : decode code 420 = .ok (.iconst 2, 1) := by decide +kernel
theorem zd_Law_law_421 : decode code 421 = .ok (.iadd, 1) := by decide +kernel
theorem zd_Law_law_422 : decode code 422 = .ok (.iaload, 1) := by decide +kernel
theorem zd_Law_law_423 : decode code 423 = .ok (.aload_n 0, 1) := by decide +kernel
theorem zd_Law_law_424 : decode code 424 = .ok (.iload_n 3, 1) := by decide +kernel
theorem zd_Law_law_425 : decode code 425 = .ok (.iconst 3, 1) := by decide +kernel
theorem zd_Law_law_426 : decode code 426 = .ok (.iadd, 1) := by decide +kernel
theorem zd_Law_law_427 : decode code 427 = .ok (.iaload, 1) := by decide +kernel
theorem zd_Law_law_428 : decode code 428 = .ok (.invokevirtual 39, 3) := by decide +kernel
theorem zd_Law_law_431 : decode code 431 = .ok (.aload_n 2, 1) := by decide +kernel
theorem zd_Law_law_432 : decode code 432 = .ok (.aload_n 0, 1) := by decide +kernel
theorem zd_Law_law_433 : decode code 433 = .ok (.iload_n 3, 1) := by decide +kernel
theorem zd_Law_law_434 : decode code 434 = .ok (.iconst 1, 1) := by decide +kernel
theorem zd_Law_law_435 : decode code 435 = .ok (.iadd, 1) := by decide +kernel
theorem zd_Law_law_436 : decode code 436 = .ok (.iaload, 1) := by decide +kernel
theorem zd_Law_law_437 : decode code 437 = .ok (.aload_n 0, 1) := by decide +kernel
theorem zd_Law_law_438 : decode code 438 = .ok (.iload_n 3, 1) := by decide +kernel
theorem zd_Law_law_439 : decode code 439 = .ok (.iconst 2, 1) := by decide +kernel
theorem zd_Law_law_440 : decode code 440 = .ok (.iadd, 1) := by decide +kernel
theorem zd_Law_law_441 : decode code 441 = .ok (.iaload, 1) := by decide +kernel
theorem zd_Law_law_442 : decode code 442 = .ok (.aload_n 0, 1) := by decide +kernel
theorem zd_Law_law_443 : decode code 443 = .ok (.iload_n 3, 1) := by decide +kernel
theorem zd_Law_law_444 : decode code 444 = .ok (.iconst 3, 1) := by decide +kernel
theorem zd_Law_law_445 : decode code 445 = .ok (.iadd, 1) := by decide +kernel
theorem zd_Law_law_446 : decode code 446 = .ok (.iaload, 1) := by decide +kernel
theorem zd_Law_law_447 : decode code 447 = .ok (.invokevirtual 42, 3) := by decide +kernel
theorem zd_Law_law_450 : decode code 450 = .ok (.if_icmp .eq 869, 3) := by decide +kernel
theorem zd_Law_law_453 : decode code 453 = .ok (.iconst 0, 1) := by decide +kernel
theorem zd_Law_law_454 : decode code 454 = .ok (.ireturn, 1) := by decide +kernel
theorem zd_Law_law_379 : decode code 379 = .ok (.aload_n 1, 1) := by decide +kernel
theorem zd_Law_law_380 : decode code 380 = .ok (.aload_n 0, 1) := by decide +kernel
theorem zd_Law_law_381 : decode code 381 = .ok (.iload_n 3, 1) := by decide +kernel
theorem zd_Law_law_382 : decode code 382 = .ok (.iconst 1, 1) := by decide +kernel
theorem zd_Law_law_383 : decode code 383 = .ok (.iadd, 1) := by decide +kernel
theorem zd_Law_law_384 : decode code 384 = .ok (.iaload, 1) := by decide +kernel
theorem zd_Law_law_385 : decode code 385 = .ok (.aload_n 0, 1) := by decide +kernel
theorem zd_Law_law_386 : decode code 386 = .ok (.iload_n 3, 1) := by decide +kernel
theorem zd_Law_law_387 : decode code 387 = .ok (.iconst 2, 1) := by decide +kernel
theorem zd_Law_law_388 : decode code 388 = .ok (.iadd, 1) := by decide +kernel
theorem zd_Law_law_389 : decode code 389 = .ok (.iaload, 1) := by decide +kernel
theorem zd_Law_law_390 : decode code 390 = .ok (.invokevirtual 35, 3) := by decide +kernel
theorem zd_Law_law_393 : decode code 393 = .ok (.aload_n 2, 1) := by decide +kernel
theorem zd_Law_law_394 : decode code 394 = .ok (.aload_n 0, 1) := by decide +kernel
theorem zd_Law_law_395 : decode code 395 = .ok (.iload_n 3, 1) := by decide +kernel
theorem zd_Law_law_396 : decode code 396 = .ok (.iconst 1, 1) := by decide +kernel
theorem zd_Law_law_397 : decode code 397 = .ok (.iadd, 1) := by decide +kernel
theorem zd_Law_law_398 : decode code 398 = .ok (.iaload, 1) := by decide +kernel
theorem zd_Law_law_399 : decode code 399 = .ok (.aload_n 0, 1) := by decide +kernel
theorem zd_Law_law_400 : decode code 400 = .ok (.iload_n 3, 1) := by decide +kernel
theorem zd_Law_law_401 : decode code 401 = .ok (.iconst 2, 1) := by decide +kernel
theorem zd_Law_law_402 : decode code 402 = .ok (.iadd, 1) := by decide +kernel
theorem zd_Law_law_403 : decode code 403 = .ok (.iaload, 1) := by decide +kernel
theorem zd_Law_law_404 : decode code 404 = .ok (.invokevirtual 38, 3) := by decide +kernel
theorem zd_Law_law_407 : decode code 407 = .ok (.if_icmp .eq 912, 3) := by decide +kernel
theorem zd_Law_law_410 : decode code 410 = .ok (.iconst 0, 1) := by decide +kernel
theorem zd_Law_law_411 : decode code 411 = .ok (.ireturn, 1) := by decide +kernel
theorem zd_Law_law_336 : decode code 336 = .ok (.aload_n 1, 1) := by decide +kernel
theorem zd_Law_law_337 : decode code 337 = .ok (.aload_n 0, 1) := by decide +kernel
theorem zd_Law_law_338 : decode code 338 = .ok (.iload_n 3, 1) := by decide +kernel
theorem zd_Law_law_339 : decode code 339 = .ok (.iconst 1, 1) := by decide +kernel
theorem zd_Law_law_340 : decode code 340 = .ok (.iadd, 1) := by decide +kernel
theorem zd_Law_law_341 : decode code 341 = .ok (.iaload, 1) := by decide +kernel
theorem zd_Law_law_342 : decode code 342 = .ok (.aload_n 0, 1) := by decide +kernel
theorem zd_Law_law_343 : decode code 343 = .ok (.iload_n 3, 1) := by decide +kernel
theorem zd_Law_law_344 : decode code 344 = .ok (.iconst 2, 1) := by decide +kernel
theorem zd_Law_law_345 : decode code 345 = .ok (.iadd, 1) := by decide +kernel
theorem zd_Law_law_346 : decode code 346 = .ok (.iaload, 1) := by decide +kernel
theorem zd_Law_law_347 : decode code 347 = .ok (.aload_n 0, 1) := by decide +kernel
theorem zd_Law_law_348 : decode code 348 = .ok (.iload_n 3, 1) := by decide +kernel
theorem zd_Law_law_349 : decode code 349 = .ok (.iconst 3, 1) := by decide +kernel
theorem zd_Law_law_350 : decode code 350 = .ok (.iadd, 1) := by decide +kernel
theorem zd_Law_law_351 : decode code 351 = .ok (.iaload, 1) := by decide +kernel
theorem zd_Law_law_352 : decode code 352 = .ok (.invokevirtual 31, 3) := by decide +kernel
theorem zd_Law_law_355 : decode code 355 = .ok (.aload_n 2, 1) := by decide +kernel
theorem zd_Law_law_356 : decode code 356 = .ok (.aload_n 0, 1) := by decide +kernel
theorem zd_Law_law_357 : decode code 357 = .ok (.iload_n 3, 1) := by decide +kernel
theorem zd_Law_law_358 : decode code 358 = .ok (.iconst 1, 1) := by decide +kernel
theorem zd_Law_law_359 : decode code 359 = .ok (.iadd, 1) := by decide +kernel
theorem zd_Law_law_360 : decode code 360 = .ok (.iaload, 1) := by decide +kernel
theorem zd_Law_law_361 : decode code 361 = .ok (.aload_n 0, 1) := by decide +kernel
theorem zd_Law_law_362 : decode code 362 = .ok (.iload_n 3, 1) := by decide +kernel
theorem zd_Law_law_363 : decode code 363 = .ok (.iconst 2, 1) := by decide +kernel
theorem zd_Law_law_364 : decode code 364 = .ok (.iadd, 1) := by decide +kernel
theorem zd_Law_law_365 : decode code 365 = .ok (.iaload, 1) := by decide +kernel
theorem zd_Law_law_366 : decode code 366 = .ok (.aload_n 0, 1) := by decide +kernel
theorem zd_Law_law_367 : decode code 367 = .ok (.iload_n 3, 1) := by decide +kernel
theorem zd_Law_law_368 : decode code 368 = .ok (.iconst 3, 1) := by decide +kernel
theorem zd_Law_law_369 : decode code 369 = .ok (.iadd, 1) := by decide +kernel
theorem zd_Law_law_370 : decode code 370 = .ok (.iaload, 1) := by decide +kernel
theorem zd_Law_law_371 : decode code 371 = .ok (.invokevirtual 34, 3) := by decide +kernel
theorem zd_Law_law_374 : decode code 374 = .ok (.if_icmp .eq 945, 3) := by decide +kernel
theorem zd_Law_law_377 : decode code 377 = .ok (.iconst 0, 1) := by decide +kernel
theorem zd_Law_law_378 : decode code 378 = .ok (.ireturn, 1) := by decide +kernel
theorem zd_Law_law_303 : decode code 303 = .ok (.aload_n 1, 1) := by decide +kernel
theorem zd_Law_law_304 : decode code 304 = .ok (.aload_n 0, 1) := by decide +kernel
theorem zd_Law_law_305 : decode code 305 = .ok (.iload_n 3, 1) := by decide +kernel
theorem zd_Law_law_306 : decode code 306 = .ok (.iconst 1, 1) := by decide +kernel
theorem zd_Law_law_307 : decode code 307 = .ok (.iadd, 1) := by decide +kernel
theorem zd_Law_law_308 : decode code 308 = .ok (.iaload, 1) := by decide +kernel
theorem zd_Law_law_309 : decode code 309 = .ok (.aload_n 0, 1) := by decide +kernel
theorem zd_Law_law_310 : decode code 310 = .ok (.iload_n 3, 1) := by decide +kernel
theorem zd_Law_law_311 : decode code 311 = .ok (.iconst 2, 1) := by decide +kernel
theorem zd_Law_law_312 : decode code 312 = .ok (.iadd, 1) := by decide +kernel
theorem zd_Law_law_313 : decode code 313 = .ok (.iaload, 1) := by decide +kernel
theorem zd_Law_law_314 : decode code 314 = .ok (.invokevirtual 27, 3) := by decide +kernel
theorem zd_Law_law_317 : decode code 317 = .ok (.aload_n 2, 1) := by decide +kernel
theorem zd_Law_law_318 : decode code 318 = .ok (.aload_n 0, 1) := by decide +kernel
theorem zd_Law_law_319 : decode code 319 = .ok (.iload_n 3, 1) := by decide +kernel
theorem zd_Law_law_320 : decode code 320 = .ok (.iconst 1, 1) := by decide +kernel
theorem zd_Law_law_321 : decode code 321 = .ok (.iadd, 1) := by decide +kernel
theorem zd_Law_law_322 : decode code 322 = .ok (.iaload, 1) := by decide +kernel
theorem zd_Law_law_323 : decode code 323 = .ok (.aload_n 0, 1) := by decide +kernel
theorem zd_Law_law_324 : decode code 324 = .ok (.iload_n 3, 1) := by decide +kernel
theorem zd_Law_law_325 : decode code 325 = .ok (.iconst 2, 1) := by decide +kernel
theorem zd_Law_law_326 : decode code 326 = .ok (.iadd, 1) := by decide +kernel
theorem zd_Law_law_327 : decode code 327 = .ok (.iaload, 1) := by decide +kernel
theorem zd_Law_law_328 : decode code 328 = .ok (.invokevirtual 30, 3) := by decide +kernel
theorem zd_Law_law_331 : decode code 331 = .ok (.if_icmp .eq 988, 3) := by decide +kernel
theorem zd_Law_law_334 : decode code 334 = .ok (.iconst 0, 1) := by decide +kernel
theorem zd_Law_law_335 : decode code 335 = .ok (.ireturn, 1) := by decide +kernel
theorem zd_Law_law_260 : decode code 260 = .ok (.aload_n 1, 1) := by decide +kernel
theorem zd_Law_law_261 : decode code 261 = .ok (.aload_n 0, 1) := by decide +kernel
theorem zd_Law_law_262 : decode code 262 = .ok (.iload_n 3, 1) := by decide +kernel
theorem zd_Law_law_263 : decode code 263 = .ok (.iconst 1, 1) := by decide +kernel
theorem zd_Law_law_264 : decode code 264 = .ok (.iadd, 1) := by decide +kernel
theorem zd_Law_law_265 : decode code 265 = .ok (.iaload, 1) := by decide +kernel
theorem zd_Law_law_266 : decode code 266 = .ok (.aload_n 0, 1) := by decide +kernel
theorem zd_Law_law_267 : decode code 267 = .ok (.iload_n 3, 1) := by decide +kernel
theorem zd_Law_law_268 : decode code 268 = .ok (.iconst 2, 1) := by decide +kernel
theorem zd_Law_law_269 : decode code 269 = .ok (.iadd, 1) := by decide +kernel
theorem zd_Law_law_270 : decode code 270 = .ok (.iaload, 1) := by decide +kernel
theorem zd_Law_law_271 : decode code 271 = .ok (.aload_n 0, 1) := by decide +kernel
theorem zd_Law_law_272 : decode code 272 = .ok (.iload_n 3, 1) := by decide +kernel
theorem zd_Law_law_273 : decode code 273 = .ok (.iconst 3, 1) := by decide +kernel
theorem zd_Law_law_274 : decode code 274 = .ok (.iadd, 1) := by decide +kernel
theorem zd_Law_law_275 : decode code 275 = .ok (.iaload, 1) := by decide +kernel
theorem zd_Law_law_276 : decode code 276 = .ok (.invokevirtual 23, 3) := by decide +kernel
theorem zd_Law_law_279 : decode code 279 = .ok (.aload_n 2, 1) := by decide +kernel
theorem zd_Law_law_280 : decode code 280 = .ok (.aload_n 0, 1) := by decide +kernel
theorem zd_Law_law_281 : decode code 281 = .ok (.iload_n 3, 1) := by decide +kernel
theorem zd_Law_law_282 : decode code 282 = .ok (.iconst 1, 1) := by decide +kernel
theorem zd_Law_law_283 : decode code 283 = .ok (.iadd, 1) := by decide +kernel
theorem zd_Law_law_284 : decode code 284 = .ok (.iaload, 1) := by decide +kernel
theorem zd_Law_law_285 : decode code 285 = .ok (.aload_n 0, 1) := by decide +kernel
theorem zd_Law_law_286 : decode code 286 = .ok (.iload_n 3, 1) := by decide +kernel
theorem zd_Law_law_287 : decode code 287 = .ok (.iconst 2, 1) := by decide +kernel
theorem zd_Law_law_288 : decode code 288 = .ok (.iadd, 1) := by decide +kernel
theorem zd_Law_law_289 : decode code 289 = .ok (.iaload, 1) := by decide +kernel
theorem zd_Law_law_290 : decode code 290 = .ok (.aload_n 0, 1) := by decide +kernel
theorem zd_Law_law_291 : decode code 291 = .ok (.iload_n 3, 1) := by decide +kernel
theorem zd_Law_law_292 : decode code 292 = .ok (.iconst 3, 1) := by decide +kernel
theorem zd_Law_law_293 : decode code 293 = .ok (.iadd, 1) := by decide +kernel
theorem zd_Law_law_294 : decode code 294 = .ok (.iaload, 1) := by decide +kernel
theorem zd_Law_law_295 : decode code 295 = .ok (.invokevirtual 26, 3) := by decide +kernel
theorem zd_Law_law_298 : decode code 298 = .ok (.if_icmp .eq 1021, 3) := by decide +kernel
theorem zd_Law_law_301 : decode code 301 = .ok (.iconst 0, 1) := by decide +kernel
theorem zd_Law_law_302 : decode code 302 = .ok (.ireturn, 1) := by decide +kernel
theorem zd_Law_law_227 : decode code 227 = .ok (.aload_n 1, 1) := by decide +kernel
theorem zd_Law_law_228 : decode code 228 = .ok (.aload_n 0, 1) := by decide +kernel
theorem zd_Law_law_229 : decode code 229 = .ok (.iload_n 3, 1) := by decide +kernel
theorem zd_Law_law_230 : decode code 230 = .ok (.iconst 1, 1) := by decide +kernel
theorem zd_Law_law_231 : decode code 231 = .ok (.iadd, 1) := by decide +kernel
theorem zd_Law_law_232 : decode code 232 = .ok (.iaload, 1) := by decide +kernel
theorem zd_Law_law_233 : decode code 233 = .ok (.aload_n 0, 1) := by decide +kernel
theorem zd_Law_law_234 : decode code 234 = .ok (.iload_n 3, 1) := by decide +kernel
theorem zd_Law_law_235 : decode code 235 = .ok (.iconst 2, 1) := by decide +kernel
theorem zd_Law_law_236 : decode code 236 = .ok (.iadd, 1) := by decide +kernel
theorem zd_Law_law_237 : decode code 237 = .ok (.iaload, 1) := by decide +kernel
theorem zd_Law_law_238 : decode code 238 = .ok (.invokevirtual 18, 3) := by decide +kernel
theorem zd_Law_law_241 : decode code 241 = .ok (.aload_n 2, 1) := by decide +kernel
theorem zd_Law_law_242 : decode code 242 = .ok (.aload_n 0, 1) := by decide +kernel
theorem zd_Law_law_243 : decode code 243 = .ok (.iload_n 3, 1) := by decide +kernel
theorem zd_Law_law_244 : decode code 244 = .ok (.iconst 1, 1) := by decide +kernel
theorem zd_Law_law_245 : decode code 245 = .ok (.iadd, 1) := by decide +kernel
theorem zd_Law_law_246 : decode code 246 = .ok (.iaload, 1) := by decide +kernel
theorem zd_Law_law_247 : decode code 247 = .ok (.aload_n 0, 1) := by decide +kernel
theorem zd_Law_law_248 : decode code 248 = .ok (.iload_n 3, 1) := by decide +kernel
theorem zd_Law_law_249 : decode code 249 = .ok (.iconst 2, 1) := by decide +kernel
theorem zd_Law_law_250 : decode code 250 = .ok (.iadd, 1) := by decide +kernel
theorem zd_Law_law_251 : decode code 251 = .ok (.iaload, 1) := by decide +kernel
theorem zd_Law_law_252 : decode code 252 = .ok (.invokevirtual 22, 3) := by decide +kernel
theorem zd_Law_law_255 : decode code 255 = .ok (.if_icmp .eq 1064, 3) := by decide +kernel
theorem zd_Law_law_258 : decode code 258 = .ok (.iconst 0, 1) := by decide +kernel
theorem zd_Law_law_259 : decode code 259 = .ok (.ireturn, 1) := by decide +kernel
theorem zd_Law_law_184 : decode code 184 = .ok (.aload_n 1, 1) := by decide +kernel
theorem zd_Law_law_185 : decode code 185 = .ok (.aload_n 0, 1) := by decide +kernel
theorem zd_Law_law_186 : decode code 186 = .ok (.iload_n 3, 1) := by decide +kernel
theorem zd_Law_law_187 : decode code 187 = .ok (.iconst 1, 1) := by decide +kernel
theorem zd_Law_law_188 : decode code 188 = .ok (.iadd, 1) := by decide +kernel
theorem zd_Law_law_189 : decode code 189 = .ok (.iaload, 1) := by decide +kernel
theorem zd_Law_law_190 : decode code 190 = .ok (.aload_n 0, 1) := by decide +kernel
theorem zd_Law_law_191 : decode code 191 = .ok (.iload_n 3, 1) := by decide +kernel
theorem zd_Law_law_192 : decode code 192 = .ok (.iconst 2, 1) := by decide +kernel
theorem zd_Law_law_193 : decode code 193 = .ok (.iadd, 1) := by decide +kernel
theorem zd_Law_law_194 : decode code 194 = .ok (.iaload, 1) := by decide +kernel
theorem zd_Law_law_195 : decode code 195 = .ok (.aload_n 0, 1) := by decide +kernel
theorem zd_Law_law_196 : decode code 196 = .ok (.iload_n 3, 1) := by decide +kernel
theorem zd_Law_law_197 : decode code 197 = .ok (.iconst 3, 1) := by decide +kernel
theorem zd_Law_law_198 : decode code 198 = .ok (.iadd, 1) := by decide +kernel
theorem zd_Law_law_199 : decode code 199 = .ok (.iaload, 1) := by decide +kernel
theorem zd_Law_law_200 : decode code 200 = .ok (.invokevirtual 13, 3) := by decide +kernel
theorem zd_Law_law_203 : decode code 203 = .ok (.aload_n 2, 1) := by decide +kernel
theorem zd_Law_law_204 : decode code 204 = .ok (.aload_n 0, 1) := by decide +kernel
theorem zd_Law_law_205 : decode code 205 = .ok (.iload_n 3, 1) := by decide +kernel
theorem zd_Law_law_206 : decode code 206 = .ok (.iconst 1, 1) := by decide +kernel
theorem zd_Law_law_207 : decode code 207 = .ok (.iadd, 1) := by decide +kernel
theorem zd_Law_law_208 : decode code 208 = .ok (.iaload, 1) := by decide +kernel
theorem zd_Law_law_209 : decode code 209 = .ok (.aload_n 0, 1) := by decide +kernel
theorem zd_Law_law_210 : decode code 210 = .ok (.iload_n 3, 1) := by decide +kernel
theorem zd_Law_law_211 : decode code 211 = .ok (.iconst 2, 1) := by decide +kernel
theorem zd_Law_law_212 : decode code 212 = .ok (.iadd, 1) := by decide +kernel
theorem zd_Law_law_213 : decode code 213 = .ok (.iaload, 1) := by decide +kernel
theorem zd_Law_law_214 : decode code 214 = .ok (.aload_n 0, 1) := by decide +kernel
theorem zd_Law_law_215 : decode code 215 = .ok (.iload_n 3, 1) := by decide +kernel
theorem zd_Law_law_216 : decode code 216 = .ok (.iconst 3, 1) := by decide +kernel
theorem zd_Law_law_217 : decode code 217 = .ok (.iadd, 1) := by decide +kernel
theorem zd_Law_law_218 : decode code 218 = .ok (.iaload, 1) := by decide +kernel
theorem zd_Law_law_219 : decode code 219 = .ok (.invokevirtual 17, 3) := by decide +kernel
theorem zd_Law_law_222 : decode code 222 = .ok (.if_icmp .eq 1097, 3) := by decide +kernel
theorem zd_Law_law_1319 : decode code 1319 = .ok (.iinc 3 6, 3) := by decide +kernel
theorem zd_Law_law_1322 : decode code 1322 = .ok (.goto (-1304), 3) := by decide +kernel
theorem zd_Law_law_225 : decode code 225 = .ok (.iconst 0, 1) := by decide +kernel
theorem zd_Law_law_226 : decode code 226 = .ok (.ireturn, 1) := by decide +kernel
abbrev zm_Law_law : zQ := ("LoofahSaintsLaw", code, 4, ret, false)
set_option maxRecDepth 100000 in
def fn_Law_law_L18 (X : zXt) (a1 : Nat) (a2 : Nat) (a3 : Int32) (S : zS) (K18 : Nat → Nat → Int32 → zS → Option (Int32 × zS)) : Option (Int32 × zS) :=
  br (decide (((Int32.ofNat X.1) - (6 : Int32)) < a3)) (some ((1 : Int32), S)) <|
  gd (gB a3 X.1) <|
  br (decide (((X.2 a3.toNatClampNeg) &&& (63 : Int32)) = (0 : Int32))) (gd (gB (a3 + (1 : Int32)) X.1) <|
  gd (gB (a3 + (2 : Int32)) X.1) <|
  gd (gB (a3 + (3 : Int32)) X.1) <|
  gd (gT S a1 109) <|
  bq (fn_Ls_saint a1 (X.2 (a3 + (1 : Int32)).toNatClampNeg) (X.2 (a3 + (2 : Int32)).toNatClampNeg) (X.2 (a3 + (3 : Int32)).toNatClampNeg) S) fun r10 S8 =>
  gd (gT S8 a2 110) <|
  bq (fn_Mo_saint a2 (X.2 (a3 + (1 : Int32)).toNatClampNeg) (X.2 (a3 + (2 : Int32)).toNatClampNeg) (X.2 (a3 + (3 : Int32)).toNatClampNeg) S8) fun r14 S12 =>
  br (decide (r10 = r14)) (K18 a1 a2 (a3 + (6 : Int32)) S12) <|
  some ((0 : Int32), S12)) <|
  br (decide (((X.2 a3.toNatClampNeg) &&& (63 : Int32)) = (1 : Int32))) (gd (gB (a3 + (1 : Int32)) X.1) <|
  gd (gB (a3 + (2 : Int32)) X.1) <|
  gd (gT S a1 109) <|
  bq (fn_Ls_of a1 (X.2 (a3 + (1 : Int32)).toNatClampNeg) (X.2 (a3 + (2 : Int32)).toNatClampNeg) S) fun r22 S20 =>
  gd (gT S20 a2 110) <|
  bq (fn_Mo_of a2 (X.2 (a3 + (1 : Int32)).toNatClampNeg) (X.2 (a3 + (2 : Int32)).toNatClampNeg) S20) fun r26 S24 =>
  br (decide (r22 = r26)) (K18 a1 a2 (a3 + (6 : Int32)) S24) <|
  some ((0 : Int32), S24)) <|
  br (decide (((X.2 a3.toNatClampNeg) &&& (63 : Int32)) = (2 : Int32))) (gd (gB (a3 + (1 : Int32)) X.1) <|
  gd (gB (a3 + (2 : Int32)) X.1) <|
  gd (gB (a3 + (3 : Int32)) X.1) <|
  gd (gT S a1 109) <|
  bq (fn_Ls_set a1 (X.2 (a3 + (1 : Int32)).toNatClampNeg) (X.2 (a3 + (2 : Int32)).toNatClampNeg) (X.2 (a3 + (3 : Int32)).toNatClampNeg) S) fun r35 S33 =>
  gd (gT S33 a2 110) <|
  bq (fn_Mo_set a2 (X.2 (a3 + (1 : Int32)).toNatClampNeg) (X.2 (a3 + (2 : Int32)).toNatClampNeg) (X.2 (a3 + (3 : Int32)).toNatClampNeg) S33) fun r39 S37 =>
  br (decide (r35 = r39)) (K18 a1 a2 (a3 + (6 : Int32)) S37) <|
  some ((0 : Int32), S37)) <|
  br (decide (((X.2 a3.toNatClampNeg) &&& (63 : Int32)) = (3 : Int32))) (gd (gB (a3 + (1 : Int32)) X.1) <|
  gd (gB (a3 + (2 : Int32)) X.1) <|
  gd (gT S a1 109) <|
  bq (fn_Ls_peg a1 (X.2 (a3 + (1 : Int32)).toNatClampNeg) (X.2 (a3 + (2 : Int32)).toNatClampNeg) S) fun r47 S45 =>
  gd (gT S45 a2 110) <|
  bq (fn_Mo_peg a2 (X.2 (a3 + (1 : Int32)).toNatClampNeg) (X.2 (a3 + (2 : Int32)).toNatClampNeg) S45) fun r51 S49 =>
  br (decide (r47 = r51)) (K18 a1 a2 (a3 + (6 : Int32)) S49) <|
  some ((0 : Int32), S49)) <|
  br (decide (((X.2 a3.toNatClampNeg) &&& (63 : Int32)) = (4 : Int32))) (gd (gB (a3 + (1 : Int32)) X.1) <|
  gd (gB (a3 + (2 : Int32)) X.1) <|
  gd (gB (a3 + (3 : Int32)) X.1) <|
  gd (gT S a1 109) <|
  bq (fn_Ls_novice a1 (X.2 (a3 + (1 : Int32)).toNatClampNeg) (X.2 (a3 + (2 : Int32)).toNatClampNeg) (X.2 (a3 + (3 : Int32)).toNatClampNeg) S) fun r60 S58 =>
  gd (gT S58 a2 110) <|
  bq (fn_Mo_novice a2 (X.2 (a3 + (1 : Int32)).toNatClampNeg) (X.2 (a3 + (2 : Int32)).toNatClampNeg) (X.2 (a3 + (3 : Int32)).toNatClampNeg) S58) fun r64 S62 =>
  br (decide (r60 = r64)) (K18 a1 a2 (a3 + (6 : Int32)) S62) <|
  some ((0 : Int32), S62)) <|
  br (decide (((X.2 a3.toNatClampNeg) &&& (63 : Int32)) = (5 : Int32))) (gd (gB (a3 + (1 : Int32)) X.1) <|
  gd (gB (a3 + (2 : Int32)) X.1) <|
  gd (gT S a1 109) <|
  bq (fn_Ls_use a1 (X.2 (a3 + (1 : Int32)).toNatClampNeg) (X.2 (a3 + (2 : Int32)).toNatClampNeg) S) fun r72 S70 =>
  gd (gT S70 a2 110) <|
  bq (fn_Mo_use a2 (X.2 (a3 + (1 : Int32)).toNatClampNeg) (X.2 (a3 + (2 : Int32)).toNatClampNeg) S70) fun r76 S74 =>
  br (decide (r72 = r76)) (K18 a1 a2 (a3 + (6 : Int32)) S74) <|
  some ((0 : Int32), S74)) <|
  br (decide (((X.2 a3.toNatClampNeg) &&& (63 : Int32)) = (6 : Int32))) (gd (gB (a3 + (1 : Int32)) X.1) <|
  gd (gB (a3 + (2 : Int32)) X.1) <|
  gd (gB (a3 + (3 : Int32)) X.1) <|
  gd (gT S a1 109) <|
  bq (fn_Ls_row a1 (X.2 (a3 + (1 : Int32)).toNatClampNeg) (X.2 (a3 + (2 : Int32)).toNatClampNeg) (X.2 (a3 + (3 : Int32)).toNatClampNeg) S) fun r85 S83 =>
  gd (gT S83 a2 110) <|
  bq (fn_Mo_row a2 (X.2 (a3 + (1 : Int32)).toNatClampNeg) (X.2 (a3 + (2 : Int32)).toNatClampNeg) (X.2 (a3 + (3 : Int32)).toNatClampNeg) S83) fun r89 S87 =>
  br (decide (r85 = r89)) (K18 a1 a2 (a3 + (6 : Int32)) S87) <|
  some ((0 : Int32), S87)) <|
  br (decide (((X.2 a3.toNatClampNeg) &&& (63 : Int32)) = (7 : Int32))) (gd (gB (a3 + (1 : Int32)) X.1) <|
  gd (gT S a1 109) <|
  bq (fn_Ls_feed a1 (X.2 (a3 + (1 : Int32)).toNatClampNeg) S) fun r96 S94 =>
  gd (gT S94 a2 110) <|
  bq (fn_Mo_feed a2 (X.2 (a3 + (1 : Int32)).toNatClampNeg) S94) fun r100 S98 =>
  br (decide (r96 = r100)) (K18 a1 a2 (a3 + (6 : Int32)) S98) <|
  some ((0 : Int32), S98)) <|
  br (decide (((X.2 a3.toNatClampNeg) &&& (63 : Int32)) = (8 : Int32))) (gd (gT S a1 109) <|
  bq (fn_Ls_order a1 S) fun r106 S104 =>
  gd (gT S104 a2 110) <|
  bq (fn_Mo_order a2 S104) fun r110 S108 =>
  br (decide (r106 = r110)) (K18 a1 a2 (a3 + (6 : Int32)) S108) <|
  some ((0 : Int32), S108)) <|
  br (decide (((X.2 a3.toNatClampNeg) &&& (63 : Int32)) = (9 : Int32))) (gd (gB (a3 + (1 : Int32)) X.1) <|
  gd (gT S a1 109) <|
  bq (fn_Ls_told a1 (X.2 (a3 + (1 : Int32)).toNatClampNeg) S) fun r117 S115 =>
  gd (gT S115 a2 110) <|
  bq (fn_Mo_told a2 (X.2 (a3 + (1 : Int32)).toNatClampNeg) S115) fun r121 S119 =>
  br (decide (r117 = r121)) (K18 a1 a2 (a3 + (6 : Int32)) S119) <|
  some ((0 : Int32), S119)) <|
  br (decide (((X.2 a3.toNatClampNeg) &&& (63 : Int32)) = (10 : Int32))) (gd (gB (a3 + (1 : Int32)) X.1) <|
  gd (gT S a1 109) <|
  bq (fn_Ls_pass a1 (X.2 (a3 + (1 : Int32)).toNatClampNeg) S) fun r128 S126 =>
  gd (gT S126 a2 110) <|
  bq (fn_Mo_pass a2 (X.2 (a3 + (1 : Int32)).toNatClampNeg) S126) fun r132 S130 =>
  br (decide (r128 = r132)) (K18 a1 a2 (a3 + (6 : Int32)) S130) <|
  some ((0 : Int32), S130)) <|
  br (decide (((X.2 a3.toNatClampNeg) &&& (63 : Int32)) = (11 : Int32))) (gd (gB (a3 + (1 : Int32)) X.1) <|
  gd (gB (a3 + (2 : Int32)) X.1) <|
  gd (gT S a1 109) <|
  bq (fn_Ls_on a1 (X.2 (a3 + (1 : Int32)).toNatClampNeg) (X.2 (a3 + (2 : Int32)).toNatClampNeg) S) fun r140 S138 =>
  gd (gT S138 a2 110) <|
  bq (fn_Mo_on_ a2 (X.2 (a3 + (1 : Int32)).toNatClampNeg) (X.2 (a3 + (2 : Int32)).toNatClampNeg) S138) fun r144 S142 =>
  br (decide (r140 = r144)) (K18 a1 a2 (a3 + (6 : Int32)) S142) <|
  some ((0 : Int32), S142)) <|
  br (decide (((X.2 a3.toNatClampNeg) &&& (63 : Int32)) = (12 : Int32))) (gd (gB (a3 + (1 : Int32)) X.1) <|
  gd (gT S a1 109) <|
  bq (fn_Ls_shared a1 (X.2 (a3 + (1 : Int32)).toNatClampNeg) S) fun r151 S149 =>
  gd (gT S149 a2 110) <|
  bq (fn_Mo_shared a2 (X.2 (a3 + (1 : Int32)).toNatClampNeg) S149) fun r155 S153 =>
  br (decide (r151 = r155)) (K18 a1 a2 (a3 + (6 : Int32)) S153) <|
  some ((0 : Int32), S153)) <|
  br (decide (((X.2 a3.toNatClampNeg) &&& (63 : Int32)) = (13 : Int32))) (gd (gB (a3 + (1 : Int32)) X.1) <|
  gd (gB (a3 + (2 : Int32)) X.1) <|
  gd (gB (a3 + (3 : Int32)) X.1) <|
  gd (gT S a1 109) <|
  bq (fn_Ls_scrubbed a1 (X.2 (a3 + (1 : Int32)).toNatClampNeg) (X.2 (a3 + (2 : Int32)).toNatClampNeg) (X.2 (a3 + (3 : Int32)).toNatClampNeg) S) fun r164 S162 =>
  gd (gT S162 a2 110) <|
  bq (fn_Mo_scrubbed a2 (X.2 (a3 + (1 : Int32)).toNatClampNeg) (X.2 (a3 + (2 : Int32)).toNatClampNeg) (X.2 (a3 + (3 : Int32)).toNatClampNeg) S162) fun r168 S166 =>
  br (decide (r164 = r168)) (K18 a1 a2 (a3 + (6 : Int32)) S166) <|
  some ((0 : Int32), S166)) <|
  br (decide (((X.2 a3.toNatClampNeg) &&& (63 : Int32)) = (14 : Int32))) (gd (gB (a3 + (1 : Int32)) X.1) <|
  gd (gB (a3 + (2 : Int32)) X.1) <|
  gd (gB (a3 + (3 : Int32)) X.1) <|
  gd (gT S a1 109) <|
  bq (fn_Ls_see a1 (X.2 (a3 + (1 : Int32)).toNatClampNeg) (X.2 (a3 + (2 : Int32)).toNatClampNeg) (X.2 (a3 + (3 : Int32)).toNatClampNeg) S) fun r177 S175 =>
  gd (gT S175 a2 110) <|
  bq (fn_Mo_see a2 (X.2 (a3 + (1 : Int32)).toNatClampNeg) (X.2 (a3 + (2 : Int32)).toNatClampNeg) (X.2 (a3 + (3 : Int32)).toNatClampNeg) S175) fun r181 S179 =>
  br (decide (r177 = r181)) (K18 a1 a2 (a3 + (6 : Int32)) S179) <|
  some ((0 : Int32), S179)) <|
  br (decide (((X.2 a3.toNatClampNeg) &&& (63 : Int32)) = (15 : Int32))) (gd (gB (a3 + (1 : Int32)) X.1) <|
  gd (gB (a3 + (2 : Int32)) X.1) <|
  gd (gT S a1 109) <|
  bq (fn_Ls_holed a1 (X.2 (a3 + (1 : Int32)).toNatClampNeg) (X.2 (a3 + (2 : Int32)).toNatClampNeg) S) fun r189 S187 =>
  gd (gT S187 a2 110) <|
  bq (fn_Mo_holed a2 (X.2 (a3 + (1 : Int32)).toNatClampNeg) (X.2 (a3 + (2 : Int32)).toNatClampNeg) S187) fun r193 S191 =>
  br (decide (r189 = r193)) (K18 a1 a2 (a3 + (6 : Int32)) S191) <|
  some ((0 : Int32), S191)) <|
  br (decide (((X.2 a3.toNatClampNeg) &&& (63 : Int32)) = (16 : Int32))) (gd (gB (a3 + (1 : Int32)) X.1) <|
  gd (gB (a3 + (2 : Int32)) X.1) <|
  gd (gT S a1 109) <|
  bq (fn_Ls_can a1 (X.2 (a3 + (1 : Int32)).toNatClampNeg) (X.2 (a3 + (2 : Int32)).toNatClampNeg) S) fun r201 S199 =>
  gd (gT S199 a2 110) <|
  bq (fn_Mo_can a2 (X.2 (a3 + (1 : Int32)).toNatClampNeg) (X.2 (a3 + (2 : Int32)).toNatClampNeg) S199) fun r205 S203 =>
  br (decide (r201 = r205)) (K18 a1 a2 (a3 + (6 : Int32)) S203) <|
  some ((0 : Int32), S203)) <|
  br (decide (((X.2 a3.toNatClampNeg) &&& (63 : Int32)) = (17 : Int32))) (gd (gB (a3 + (1 : Int32)) X.1) <|
  gd (gB (a3 + (2 : Int32)) X.1) <|
  gd (gB (a3 + (3 : Int32)) X.1) <|
  gd (gT S a1 109) <|
  bq (fn_Ls_odds a1 (X.2 (a3 + (1 : Int32)).toNatClampNeg) (X.2 (a3 + (2 : Int32)).toNatClampNeg) (X.2 (a3 + (3 : Int32)).toNatClampNeg) S) fun r214 S212 =>
  gd (gT S212 a2 110) <|
  bq (fn_Mo_odds a2 (X.2 (a3 + (1 : Int32)).toNatClampNeg) (X.2 (a3 + (2 : Int32)).toNatClampNeg) (X.2 (a3 + (3 : Int32)).toNatClampNeg) S212) fun r218 S216 =>
  br (decide ((zcmp r214 r218) = 0)) (K18 a1 a2 (a3 + (6 : Int32)) S216) <|
  some ((0 : Int32), S216)) <|
  br (decide (((X.2 a3.toNatClampNeg) &&& (63 : Int32)) = (18 : Int32))) (gd (gB (a3 + (1 : Int32)) X.1) <|
  gd (gB (a3 + (2 : Int32)) X.1) <|
  gd (gT S a1 109) <|
  bq (fn_Ls_mean a1 (X.2 (a3 + (1 : Int32)).toNatClampNeg) (X.2 (a3 + (2 : Int32)).toNatClampNeg) S) fun r226 S224 =>
  gd (gT S224 a2 110) <|
  bq (fn_Mo_mean a2 (X.2 (a3 + (1 : Int32)).toNatClampNeg) (X.2 (a3 + (2 : Int32)).toNatClampNeg) S224) fun r230 S228 =>
  br (decide ((zcmp r226 r230) = 0)) (K18 a1 a2 (a3 + (6 : Int32)) S228) <|
  some ((0 : Int32), S228)) <|
  br (decide (((X.2 a3.toNatClampNeg) &&& (63 : Int32)) = (19 : Int32))) (gd (gB (a3 + (1 : Int32)) X.1) <|
  gd (gB (a3 + (2 : Int32)) X.1) <|
  gd (gT S a1 109) <|
  bq (fn_Ls_plan a1 (X.2 (a3 + (1 : Int32)).toNatClampNeg) (X.2 (a3 + (2 : Int32)).toNatClampNeg) S) fun r238 S236 =>
  gd (gT S236 a2 110) <|
  bq (fn_Mo_plan a2 (X.2 (a3 + (1 : Int32)).toNatClampNeg) (X.2 (a3 + (2 : Int32)).toNatClampNeg) S236) fun r242 S240 =>
  br (decide (r238 = r242)) (K18 a1 a2 (a3 + (6 : Int32)) S240) <|
  some ((0 : Int32), S240)) <|
  br (decide (((X.2 a3.toNatClampNeg) &&& (63 : Int32)) = (20 : Int32))) (gd (gB (a3 + (1 : Int32)) X.1) <|
  gd (gT S a1 109) <|
  bq (fn_Ls_ends a1 (X.2 (a3 + (1 : Int32)).toNatClampNeg) S) fun r249 S247 =>
  gd (gT S247 a2 110) <|
  bq (fn_Mo_ends a2 (X.2 (a3 + (1 : Int32)).toNatClampNeg) S247) fun r253 S251 =>
  br (decide (r249 = r253)) (K18 a1 a2 (a3 + (6 : Int32)) S251) <|
  some ((0 : Int32), S251)) <|
  br (decide (((X.2 a3.toNatClampNeg) &&& (63 : Int32)) = (21 : Int32))) (gd (gB (a3 + (1 : Int32)) X.1) <|
  gd (gB (a3 + (2 : Int32)) X.1) <|
  gd (gT S a1 109) <|
  bq (fn_Ls_book a1 (X.2 (a3 + (1 : Int32)).toNatClampNeg) (X.2 (a3 + (2 : Int32)).toNatClampNeg) S) fun r261 S259 =>
  gd (gT S259 a2 110) <|
  bq (fn_Mo_book a2 (X.2 (a3 + (1 : Int32)).toNatClampNeg) (X.2 (a3 + (2 : Int32)).toNatClampNeg) S259) fun r265 S263 =>
  br (decide (r261 = r265)) (K18 a1 a2 (a3 + (6 : Int32)) S263) <|
  some ((0 : Int32), S263)) <|
  br (decide (((X.2 a3.toNatClampNeg) &&& (63 : Int32)) = (22 : Int32))) (gd (gT S a1 109) <|
  bq (fn_Ls_looked a1 S) fun r271 S269 =>
  gd (gT S269 a2 110) <|
  bq (fn_Mo_looked a2 S269) fun r275 S273 =>
  br (decide (r271 = r275)) (K18 a1 a2 (a3 + (6 : Int32)) S273) <|
  some ((0 : Int32), S273)) <|
  br (decide (((X.2 a3.toNatClampNeg) &&& (63 : Int32)) = (23 : Int32))) (gd (gB (a3 + (1 : Int32)) X.1) <|
  gd (gB (a3 + (2 : Int32)) X.1) <|
  gd (gT S a1 109) <|
  bq (fn_Ls_judge a1 (X.2 (a3 + (1 : Int32)).toNatClampNeg) (X.2 (a3 + (2 : Int32)).toNatClampNeg) S) fun r283 S281 =>
  gd (gT S281 a2 110) <|
  bq (fn_Mo_judge a2 (X.2 (a3 + (1 : Int32)).toNatClampNeg) (X.2 (a3 + (2 : Int32)).toNatClampNeg) S281) fun r287 S285 =>
  br (decide (r283 = r287)) (K18 a1 a2 (a3 + (6 : Int32)) S285) <|
  some ((0 : Int32), S285)) <|
  br (decide (((X.2 a3.toNatClampNeg) &&& (63 : Int32)) = (24 : Int32))) (gd (gT S a1 109) <|
  bq (fn_Ls_image a1 S) fun r293 S291 =>
  gd (gT S291 a2 110) <|
  bq (fn_Mo_image a2 S291) fun r297 S295 =>
  br (decide (r293 = r297)) (K18 a1 a2 (a3 + (6 : Int32)) S295) <|
  some ((0 : Int32), S295)) <|
  br (decide (((X.2 a3.toNatClampNeg) &&& (63 : Int32)) = (25 : Int32))) (gd (gT S a1 109) <|
  bq (fn_Ls_undo a1 S) fun r303 S301 =>
  gd (gT S301 a2 110) <|
  bq (fn_Mo_undo a2 S301) fun r307 S305 =>
  br (decide (r303 = r307)) (K18 a1 a2 (a3 + (6 : Int32)) S305) <|
  some ((0 : Int32), S305)) <|
  br (decide (((X.2 a3.toNatClampNeg) &&& (63 : Int32)) = (26 : Int32))) (gd (gB (a3 + (1 : Int32)) X.1) <|
  gd (gB (a3 + (2 : Int32)) X.1) <|
  gd (gB (a3 + (3 : Int32)) X.1) <|
  gd (gT S a1 109) <|
  bq (fn_Ls_act a1 (X.2 (a3 + (1 : Int32)).toNatClampNeg) (X.2 (a3 + (2 : Int32)).toNatClampNeg) (X.2 (a3 + (3 : Int32)).toNatClampNeg) S) fun r316 S314 =>
  gd (gT S314 a2 110) <|
  bq (fn_Mo_act a2 (X.2 (a3 + (1 : Int32)).toNatClampNeg) (X.2 (a3 + (2 : Int32)).toNatClampNeg) (X.2 (a3 + (3 : Int32)).toNatClampNeg) S314) fun r320 S318 =>
  br (decide (r316 = r320)) (K18 a1 a2 (a3 + (6 : Int32)) S318) <|
  some ((0 : Int32), S318)) <|
  br (decide (((X.2 a3.toNatClampNeg) &&& (63 : Int32)) = (27 : Int32))) (gd (gB (a3 + (1 : Int32)) X.1) <|
  gd (gT S a1 109) <|
  bq (fn_Ls_trace a1 (X.2 (a3 + (1 : Int32)).toNatClampNeg) S) fun r327 S325 =>
  gd (gT S325 a2 110) <|
  bq (fn_Mo_trace a2 (X.2 (a3 + (1 : Int32)).toNatClampNeg) S325) fun r331 S329 =>
  br (decide (r327 = r331)) (K18 a1 a2 (a3 + (6 : Int32)) S329) <|
  some ((0 : Int32), S329)) <|
  br (decide (((X.2 a3.toNatClampNeg) &&& (63 : Int32)) = (28 : Int32))) (gd (gB (a3 + (1 : Int32)) X.1) <|
  gd (gB (a3 + (2 : Int32)) X.1) <|
  gd (gT S a1 109) <|
  bq (fn_Ls_taken a1 (X.2 (a3 + (1 : Int32)).toNatClampNeg) (X.2 (a3 + (2 : Int32)).toNatClampNeg) S) fun r339 S337 =>
  gd (gT S337 a2 110) <|
  bq (fn_Mo_taken a2 (X.2 (a3 + (1 : Int32)).toNatClampNeg) (X.2 (a3 + (2 : Int32)).toNatClampNeg) S337) fun r343 S341 =>
  br (decide (r339 = r343)) (K18 a1 a2 (a3 + (6 : Int32)) S341) <|
  some ((0 : Int32), S341)) <|
  br (decide (((X.2 a3.toNatClampNeg) &&& (63 : Int32)) = (29 : Int32))) (gd (gB (a3 + (1 : Int32)) X.1) <|
  gd (gT S a1 109) <|
  bq (fn_Ls_count a1 (X.2 (a3 + (1 : Int32)).toNatClampNeg) S) fun r350 S348 =>
  gd (gT S348 a2 110) <|
  bq (fn_Mo_count a2 (X.2 (a3 + (1 : Int32)).toNatClampNeg) S348) fun r354 S352 =>
  br (decide (r350 = r354)) (K18 a1 a2 (a3 + (6 : Int32)) S352) <|
  some ((0 : Int32), S352)) <|
  br (decide (((X.2 a3.toNatClampNeg) &&& (63 : Int32)) = (30 : Int32))) (gd (gB (a3 + (1 : Int32)) X.1) <|
  gd (gB (a3 + (2 : Int32)) X.1) <|
  gd (gB (a3 + (3 : Int32)) X.1) <|
  gd (gT S a1 109) <|
  bq (fn_Ls_tape a1 (X.2 (a3 + (1 : Int32)).toNatClampNeg) (X.2 (a3 + (2 : Int32)).toNatClampNeg) (X.2 (a3 + (3 : Int32)).toNatClampNeg) S) fun r363 S361 =>
  gd (gT S361 a2 110) <|
  bq (fn_Mo_tape a2 (X.2 (a3 + (1 : Int32)).toNatClampNeg) (X.2 (a3 + (2 : Int32)).toNatClampNeg) (X.2 (a3 + (3 : Int32)).toNatClampNeg) S361) fun r367 S365 =>
  br (decide (r363 = r367)) (K18 a1 a2 (a3 + (6 : Int32)) S365) <|
  some ((0 : Int32), S365)) <|
  br (decide (((X.2 a3.toNatClampNeg) &&& (63 : Int32)) = (31 : Int32))) (gd (gB (a3 + (1 : Int32)) X.1) <|
  gd (gB (a3 + (2 : Int32)) X.1) <|
  gd (gB (a3 + (3 : Int32)) X.1) <|
  gd (gB (a3 + (4 : Int32)) X.1) <|
  gd (gT S a1 109) <|
  bq (fn_Ls_item a1 (X.2 (a3 + (1 : Int32)).toNatClampNeg) (X.2 (a3 + (2 : Int32)).toNatClampNeg) ((((X.2 (a3 + (3 : Int32)).toNatClampNeg).toInt64) <<< ((32 : Int32).toInt64 &&& 63)) ||| (((X.2 (a3 + (4 : Int32)).toNatClampNeg).toInt64) &&& (4294967295 : Int64))) S) fun r377 S375 =>
  gd (gT S375 a2 110) <|
  bq (fn_Mo_item a2 (X.2 (a3 + (1 : Int32)).toNatClampNeg) (X.2 (a3 + (2 : Int32)).toNatClampNeg) ((((X.2 (a3 + (3 : Int32)).toNatClampNeg).toInt64) <<< ((32 : Int32).toInt64 &&& 63)) ||| (((X.2 (a3 + (4 : Int32)).toNatClampNeg).toInt64) &&& (4294967295 : Int64))) S375) fun r381 S379 =>
  br (decide (r377 = r381)) (K18 a1 a2 (a3 + (6 : Int32)) S379) <|
  some ((0 : Int32), S379)) <|
  br (decide (((X.2 a3.toNatClampNeg) &&& (63 : Int32)) = (32 : Int32))) (gd (gB (a3 + (1 : Int32)) X.1) <|
  gd (gB (a3 + (2 : Int32)) X.1) <|
  gd (gT S a1 109) <|
  bq (fn_Ls_read a1 (X.2 (a3 + (1 : Int32)).toNatClampNeg) (X.2 (a3 + (2 : Int32)).toNatClampNeg) S) fun r389 S387 =>
  gd (gT S387 a2 110) <|
  bq (fn_Mo_read a2 (X.2 (a3 + (1 : Int32)).toNatClampNeg) (X.2 (a3 + (2 : Int32)).toNatClampNeg) S387) fun r393 S391 =>
  br (decide ((zcmp r389 r393) = 0)) (K18 a1 a2 (a3 + (6 : Int32)) S391) <|
  some ((0 : Int32), S391)) <|
  br (decide (((X.2 a3.toNatClampNeg) &&& (63 : Int32)) = (33 : Int32))) (gd (gB (a3 + (1 : Int32)) X.1) <|
  gd (gB (a3 + (2 : Int32)) X.1) <|
  gd (gB (a3 + (3 : Int32)) X.1) <|
  gd (gB (a3 + (4 : Int32)) X.1) <|
  gd (gB (a3 + (5 : Int32)) X.1) <|
  gd (gT S a1 109) <|
  bq (fn_Ls_shift a1 (X.2 (a3 + (1 : Int32)).toNatClampNeg) (X.2 (a3 + (2 : Int32)).toNatClampNeg) (X.2 (a3 + (3 : Int32)).toNatClampNeg) (X.2 (a3 + (4 : Int32)).toNatClampNeg) (X.2 (a3 + (5 : Int32)).toNatClampNeg) S) fun r404 S402 =>
  gd (gT S402 a2 110) <|
  bq (fn_Mo_shift a2 (X.2 (a3 + (1 : Int32)).toNatClampNeg) (X.2 (a3 + (2 : Int32)).toNatClampNeg) (X.2 (a3 + (3 : Int32)).toNatClampNeg) (X.2 (a3 + (4 : Int32)).toNatClampNeg) (X.2 (a3 + (5 : Int32)).toNatClampNeg) S402) fun r408 S406 =>
  br (decide (r404 = r408)) (K18 a1 a2 (a3 + (6 : Int32)) S406) <|
  some ((0 : Int32), S406)) <|
  K18 a1 a2 (a3 + (6 : Int32)) S
set_option maxRecDepth 100000 in
set_option maxHeartbeats 4000000 in
theorem tm_Law_law_L18 {X : zXt} {d : Nat} (hd : 133 ≤ d) {v : Int32} {S' : zS}  {K18 : Nat → Nat → Int32 → zS → Option (Int32 × zS)} (hK18 : ∀ (a1 : Nat) (a2 : Nat) (a3 : Int32) (S : zS), K18 a1 a2 a3 S = some (v, S') → zG X zm_Law_law d 18 [some (.ref 3), some (.ref a1), some (.ref a2), some (.int a3)] [] S (some (.int v)) S') {a1 : Nat} {a2 : Nat} {a3 : Int32} {S : zS} (h : fn_Law_law_L18 X a1 a2 a3 S K18 = some (v, S')) : zG X zm_Law_law d 18 [some (.ref 3), some (.ref a1), some (.ref a2), some (.int a3)] [] S (some (.int v)) S' := by
  unfold fn_Law_law_L18 at h
  refine zg_iload_n (pc' := 19) zd_Law_law_18 rfl rfl ?_
  refine zg_aload_n (pc' := 20) zd_Law_law_19 rfl rfl ?_
  refine zg_slen (pc' := 21) zd_Law_law_20 rfl ?_
  refine zg_bipush (x := (6 : Int32)) (pc' := 23) zd_Law_law_21 (by decide) rfl ?_
  refine zg_isub (pc' := 24) zd_Law_law_23 rfl ?_
  rcases br_some h with ⟨c1, h⟩ | ⟨c1, h⟩
  · refine zg_icmp_gt (tgt := 1325) (pc' := 27) zd_Law_law_24 (by decide) rfl (fun _ => ?_) (fun q => absurd c1 q)
    refine zg_iconst (x := (1 : Int32)) (pc' := 1326) zd_Law_law_1325 (by decide) rfl ?_
    obtain ⟨rfl, rfl⟩ := rt_q h
    exact zg_iret zd_Law_law_1326 (zrt_z (by decide))
  · refine zg_icmp_gt (tgt := 1325) (pc' := 27) zd_Law_law_24 (by decide) rfl (fun q => absurd q c1) (fun _ => ?_)
    refine zg_aload_n (pc' := 28) zd_Law_law_27 rfl rfl ?_
    refine zg_iload_n (pc' := 29) zd_Law_law_28 rfl rfl ?_
    obtain ⟨g2, h⟩ := gd_some h
    refine zg_sld (pc' := 30) zd_Law_law_29 (gB_ok g2) rfl ?_
    refine zg_bipush (x := (63 : Int32)) (pc' := 32) zd_Law_law_30 (by decide) rfl ?_
    refine zg_iand (pc' := 33) zd_Law_law_32 rfl ?_
    rcases br_some h with ⟨c3, h⟩ | ⟨c3, h⟩
    · refine zg_tabI (tgt := 184) (0 : Int32) zd_Law_law_33 c3 (by decide) (by decide) rfl (by decide) ?_
      refine zg_aload_n (pc' := 185) zd_Law_law_184 rfl rfl ?_
      refine zg_aload_n (pc' := 186) zd_Law_law_185 rfl rfl ?_
      refine zg_iload_n (pc' := 187) zd_Law_law_186 rfl rfl ?_
      refine zg_iconst (x := (1 : Int32)) (pc' := 188) zd_Law_law_187 (by decide) rfl ?_
      refine zg_iadd (pc' := 189) zd_Law_law_188 rfl ?_
      obtain ⟨g4, h⟩ := gd_some h
      refine zg_sld (pc' := 190) zd_Law_law_189 (gB_ok g4) rfl ?_
      refine zg_aload_n (pc' := 191) zd_Law_law_190 rfl rfl ?_
      refine zg_iload_n (pc' := 192) zd_Law_law_191 rfl rfl ?_
      refine zg_iconst (x := (2 : Int32)) (pc' := 193) zd_Law_law_192 (by decide) rfl ?_
      refine zg_iadd (pc' := 194) zd_Law_law_193 rfl ?_
      obtain ⟨g5, h⟩ := gd_some h
      refine zg_sld (pc' := 195) zd_Law_law_194 (gB_ok g5) rfl ?_
      refine zg_aload_n (pc' := 196) zd_Law_law_195 rfl rfl ?_
      refine zg_iload_n (pc' := 197) zd_Law_law_196 rfl rfl ?_
      refine zg_iconst (x := (3 : Int32)) (pc' := 198) zd_Law_law_197 (by decide) rfl ?_
      refine zg_iadd (pc' := 199) zd_Law_law_198 rfl ?_
      obtain ⟨g6, h⟩ := gd_some h
      refine zg_sld (pc' := 200) zd_Law_law_199 (gB_ok g6) rfl ?_
      obtain ⟨g7, h⟩ := gd_some h
      obtain ⟨r10, S8, e9, h⟩ := bq_some h
      refine zg_callV (ci := 9) (As := [.int (X.2 (a3 + (1 : Int32)).toNatClampNeg), .int (X.2 (a3 + (2 : Int32)).toNatClampNeg), .int (X.2 (a3 + (3 : Int32)).toNatClampNeg)]) (rest := []) (pc' := 203) zl_Law_13 zq327 zq328 ⟨_, rfl, rfl⟩ zd_Law_law_200 rfl rfl (Nat.le_of_ble_eq_true rfl) (by omega) (gT_ok g7) (tm_Ls_saint (d := 3) (Nat.le_refl _) e9) rfl ?_
      refine zg_st (st' := [.int r10]) rfl ?_
      refine zg_aload_n (pc' := 204) zd_Law_law_203 rfl rfl ?_
      refine zg_aload_n (pc' := 205) zd_Law_law_204 rfl rfl ?_
      refine zg_iload_n (pc' := 206) zd_Law_law_205 rfl rfl ?_
      refine zg_iconst (x := (1 : Int32)) (pc' := 207) zd_Law_law_206 (by decide) rfl ?_
      refine zg_iadd (pc' := 208) zd_Law_law_207 rfl ?_
      refine zg_sld (pc' := 209) zd_Law_law_208 (gB_ok g4) rfl ?_
      refine zg_aload_n (pc' := 210) zd_Law_law_209 rfl rfl ?_
      refine zg_iload_n (pc' := 211) zd_Law_law_210 rfl rfl ?_
      refine zg_iconst (x := (2 : Int32)) (pc' := 212) zd_Law_law_211 (by decide) rfl ?_
      refine zg_iadd (pc' := 213) zd_Law_law_212 rfl ?_
      refine zg_sld (pc' := 214) zd_Law_law_213 (gB_ok g5) rfl ?_
      refine zg_aload_n (pc' := 215) zd_Law_law_214 rfl rfl ?_
      refine zg_iload_n (pc' := 216) zd_Law_law_215 rfl rfl ?_
      refine zg_iconst (x := (3 : Int32)) (pc' := 217) zd_Law_law_216 (by decide) rfl ?_
      refine zg_iadd (pc' := 218) zd_Law_law_217 rfl ?_
      refine zg_sld (pc' := 219) zd_Law_law_218 (gB_ok g6) rfl ?_
      obtain ⟨g11, h⟩ := gd_some h
      obtain ⟨r14, S12, e13, h⟩ := bq_some h
      refine zg_callV (ci := 10) (As := [.int (X.2 (a3 + (1 : Int32)).toNatClampNeg), .int (X.2 (a3 + (2 : Int32)).toNatClampNeg), .int (X.2 (a3 + (3 : Int32)).toNatClampNeg)]) (rest := [.int r10]) (pc' := 222) zl_Law_17 zq906 zq907 ⟨_, rfl, rfl⟩ zd_Law_law_219 rfl rfl (Nat.le_of_ble_eq_true rfl) (by omega) (gT_ok g11) (tm_Mo_saint (d := 4) (Nat.le_refl _) e13) rfl ?_
      refine zg_st (st' := [.int r14, .int r10]) rfl ?_
      rcases br_some h with ⟨c15, h⟩ | ⟨c15, h⟩
      · refine zg_icmp_eq (tgt := 1319) (pc' := 225) zd_Law_law_222 (by decide) rfl (fun _ => ?_) (fun q => absurd c15 q)
        refine zg_iinc (y := (a3 + (6 : Int32))) (L' := [some (.ref 3), some (.ref a1), some (.ref a2), some (.int (a3 + (6 : Int32)))]) (pc' := 1322) zd_Law_law_1319 rfl rfl (by decide) rfl rfl ?_
        refine zg_goto (tgt := 18) zd_Law_law_1322 (by decide) ?_
        exact hK18 _ _ _ _ h
      · refine zg_icmp_eq (tgt := 1319) (pc' := 225) zd_Law_law_222 (by decide) rfl (fun q => absurd q c15) (fun _ => ?_)
        refine zg_iconst (x := (0 : Int32)) (pc' := 226) zd_Law_law_225 (by decide) rfl ?_
        obtain ⟨rfl, rfl⟩ := rt_q h
        exact zg_iret zd_Law_law_226 (zrt_z (by decide))
    rcases br_some h with ⟨c16, h⟩ | ⟨c16, h⟩
    · refine zg_tabI (tgt := 227) (1 : Int32) zd_Law_law_33 c16 (by decide) (by decide) rfl (by decide) ?_
      refine zg_aload_n (pc' := 228) zd_Law_law_227 rfl rfl ?_
      refine zg_aload_n (pc' := 229) zd_Law_law_228 rfl rfl ?_
      refine zg_iload_n (pc' := 230) zd_Law_law_229 rfl rfl ?_
      refine zg_iconst (x := (1 : Int32)) (pc' := 231) zd_Law_law_230 (by decide) rfl ?_
      refine zg_iadd (pc' := 232) zd_Law_law_231 rfl ?_
      obtain ⟨g17, h⟩ := gd_some h
      refine zg_sld (pc' := 233) zd_Law_law_232 (gB_ok g17) rfl ?_
      refine zg_aload_n (pc' := 234) zd_Law_law_233 rfl rfl ?_
      refine zg_iload_n (pc' := 235) zd_Law_law_234 rfl rfl ?_
      refine zg_iconst (x := (2 : Int32)) (pc' := 236) zd_Law_law_235 (by decide) rfl ?_
      refine zg_iadd (pc' := 237) zd_Law_law_236 rfl ?_
      obtain ⟨g18, h⟩ := gd_some h
      refine zg_sld (pc' := 238) zd_Law_law_237 (gB_ok g18) rfl ?_
      obtain ⟨g19, h⟩ := gd_some h
      obtain ⟨r22, S20, e21, h⟩ := bq_some h
      refine zg_callV (ci := 9) (As := [.int (X.2 (a3 + (1 : Int32)).toNatClampNeg), .int (X.2 (a3 + (2 : Int32)).toNatClampNeg)]) (rest := []) (pc' := 241) zl_Law_18 zq341 zq342 ⟨_, rfl, rfl⟩ zd_Law_law_238 rfl rfl (Nat.le_of_ble_eq_true rfl) (by omega) (gT_ok g19) (tm_Ls_of (d := 6) (Nat.le_refl _) e21) rfl ?_
      refine zg_st (st' := [.int r22]) rfl ?_
      refine zg_aload_n (pc' := 242) zd_Law_law_241 rfl rfl ?_
      refine zg_aload_n (pc' := 243) zd_Law_law_242 rfl rfl ?_
      refine zg_iload_n (pc' := 244) zd_Law_law_243 rfl rfl ?_
      refine zg_iconst (x := (1 : Int32)) (pc' := 245) zd_Law_law_244 (by decide) rfl ?_
      refine zg_iadd (pc' := 246) zd_Law_law_245 rfl ?_
      refine zg_sld (pc' := 247) zd_Law_law_246 (gB_ok g17) rfl ?_
      refine zg_aload_n (pc' := 248) zd_Law_law_247 rfl rfl ?_
      refine zg_iload_n (pc' := 249) zd_Law_law_248 rfl rfl ?_
      refine zg_iconst (x := (2 : Int32)) (pc' := 250) zd_Law_law_249 (by decide) rfl ?_
      refine zg_iadd (pc' := 251) zd_Law_law_250 rfl ?_
      refine zg_sld (pc' := 252) zd_Law_law_251 (gB_ok g18) rfl ?_
      obtain ⟨g23, h⟩ := gd_some h
      obtain ⟨r26, S24, e25, h⟩ := bq_some h
      refine zg_callV (ci := 10) (As := [.int (X.2 (a3 + (1 : Int32)).toNatClampNeg), .int (X.2 (a3 + (2 : Int32)).toNatClampNeg)]) (rest := [.int r22]) (pc' := 255) zl_Law_22 zq916 zq917 ⟨_, rfl, rfl⟩ zd_Law_law_252 rfl rfl (Nat.le_of_ble_eq_true rfl) (by omega) (gT_ok g23) (tm_Mo_of (d := 71) (Nat.le_refl _) e25) rfl ?_
      refine zg_st (st' := [.int r26, .int r22]) rfl ?_
      rcases br_some h with ⟨c27, h⟩ | ⟨c27, h⟩
      · refine zg_icmp_eq (tgt := 1319) (pc' := 258) zd_Law_law_255 (by decide) rfl (fun _ => ?_) (fun q => absurd c27 q)
        refine zg_iinc (y := (a3 + (6 : Int32))) (L' := [some (.ref 3), some (.ref a1), some (.ref a2), some (.int (a3 + (6 : Int32)))]) (pc' := 1322) zd_Law_law_1319 rfl rfl (by decide) rfl rfl ?_
        refine zg_goto (tgt := 18) zd_Law_law_1322 (by decide) ?_
        exact hK18 _ _ _ _ h
      · refine zg_icmp_eq (tgt := 1319) (pc' := 258) zd_Law_law_255 (by decide) rfl (fun q => absurd q c27) (fun _ => ?_)
        refine zg_iconst (x := (0 : Int32)) (pc' := 259) zd_Law_law_258 (by decide) rfl ?_
        obtain ⟨rfl, rfl⟩ := rt_q h
        exact zg_iret zd_Law_law_259 (zrt_z (by decide))
    rcases br_some h with ⟨c28, h⟩ | ⟨c28, h⟩
    · refine zg_tabI (tgt := 260) (2 : Int32) zd_Law_law_33 c28 (by decide) (by decide) rfl (by decide) ?_
      refine zg_aload_n (pc' := 261) zd_Law_law_260 rfl rfl ?_
      refine zg_aload_n (pc' := 262) zd_Law_law_261 rfl rfl ?_
      refine zg_iload_n (pc' := 263) zd_Law_law_262 rfl rfl ?_
      refine zg_iconst (x := (1 : Int32)) (pc' := 264) zd_Law_law_263 (by decide) rfl ?_
      refine zg_iadd (pc' := 265) zd_Law_law_264 rfl ?_
      obtain ⟨g29, h⟩ := gd_some h
      refine zg_sld (pc' := 266) zd_Law_law_265 (gB_ok g29) rfl ?_
      refine zg_aload_n (pc' := 267) zd_Law_law_266 rfl rfl ?_
      refine zg_iload_n (pc' := 268) zd_Law_law_267 rfl rfl ?_
      refine zg_iconst (x := (2 : Int32)) (pc' := 269) zd_Law_law_268 (by decide) rfl ?_
      refine zg_iadd (pc' := 270) zd_Law_law_269 rfl ?_
      obtain ⟨g30, h⟩ := gd_some h
      refine zg_sld (pc' := 271) zd_Law_law_270 (gB_ok g30) rfl ?_
      refine zg_aload_n (pc' := 272) zd_Law_law_271 rfl rfl ?_
      refine zg_iload_n (pc' := 273) zd_Law_law_272 rfl rfl ?_
      refine zg_iconst (x := (3 : Int32)) (pc' := 274) zd_Law_law_273 (by decide) rfl ?_
      refine zg_iadd (pc' := 275) zd_Law_law_274 rfl ?_
      obtain ⟨g31, h⟩ := gd_some h
      refine zg_sld (pc' := 276) zd_Law_law_275 (gB_ok g31) rfl ?_
      obtain ⟨g32, h⟩ := gd_some h
      obtain ⟨r35, S33, e34, h⟩ := bq_some h
      refine zg_callV (ci := 9) (As := [.int (X.2 (a3 + (1 : Int32)).toNatClampNeg), .int (X.2 (a3 + (2 : Int32)).toNatClampNeg), .int (X.2 (a3 + (3 : Int32)).toNatClampNeg)]) (rest := []) (pc' := 279) zl_Law_23 zq401 zq402 ⟨_, rfl, rfl⟩ zd_Law_law_276 rfl rfl (Nat.le_of_ble_eq_true rfl) (by omega) (gT_ok g32) (tm_Ls_set (d := 3) (Nat.le_refl _) e34) rfl ?_
      refine zg_st (st' := [.int r35]) rfl ?_
      refine zg_aload_n (pc' := 280) zd_Law_law_279 rfl rfl ?_
      refine zg_aload_n (pc' := 281) zd_Law_law_280 rfl rfl ?_
      refine zg_iload_n (pc' := 282) zd_Law_law_281 rfl rfl ?_
      refine zg_iconst (x := (1 : Int32)) (pc' := 283) zd_Law_law_282 (by decide) rfl ?_
      refine zg_iadd (pc' := 284) zd_Law_law_283 rfl ?_
      refine zg_sld (pc' := 285) zd_Law_law_284 (gB_ok g29) rfl ?_
      refine zg_aload_n (pc' := 286) zd_Law_law_285 rfl rfl ?_
      refine zg_iload_n (pc' := 287) zd_Law_law_286 rfl rfl ?_
      refine zg_iconst (x := (2 : Int32)) (pc' := 288) zd_Law_law_287 (by decide) rfl ?_
      refine zg_iadd (pc' := 289) zd_Law_law_288 rfl ?_
      refine zg_sld (pc' := 290) zd_Law_law_289 (gB_ok g30) rfl ?_
      refine zg_aload_n (pc' := 291) zd_Law_law_290 rfl rfl ?_
      refine zg_iload_n (pc' := 292) zd_Law_law_291 rfl rfl ?_
      refine zg_iconst (x := (3 : Int32)) (pc' := 293) zd_Law_law_292 (by decide) rfl ?_
      refine zg_iadd (pc' := 294) zd_Law_law_293 rfl ?_
      refine zg_sld (pc' := 295) zd_Law_law_294 (gB_ok g31) rfl ?_
      obtain ⟨g36, h⟩ := gd_some h
      obtain ⟨r39, S37, e38, h⟩ := bq_some h
      refine zg_callV (ci := 10) (As := [.int (X.2 (a3 + (1 : Int32)).toNatClampNeg), .int (X.2 (a3 + (2 : Int32)).toNatClampNeg), .int (X.2 (a3 + (3 : Int32)).toNatClampNeg)]) (rest := [.int r35]) (pc' := 298) zl_Law_26 zq1019 zq1020 ⟨_, rfl, rfl⟩ zd_Law_law_295 rfl rfl (Nat.le_of_ble_eq_true rfl) (by omega) (gT_ok g36) (tm_Mo_set (d := 4) (Nat.le_refl _) e38) rfl ?_
      refine zg_st (st' := [.int r39, .int r35]) rfl ?_
      rcases br_some h with ⟨c40, h⟩ | ⟨c40, h⟩
      · refine zg_icmp_eq (tgt := 1319) (pc' := 301) zd_Law_law_298 (by decide) rfl (fun _ => ?_) (fun q => absurd c40 q)
        refine zg_iinc (y := (a3 + (6 : Int32))) (L' := [some (.ref 3), some (.ref a1), some (.ref a2), some (.int (a3 + (6 : Int32)))]) (pc' := 1322) zd_Law_law_1319 rfl rfl (by decide) rfl rfl ?_
        refine zg_goto (tgt := 18) zd_Law_law_1322 (by decide) ?_
        exact hK18 _ _ _ _ h
      · refine zg_icmp_eq (tgt := 1319) (pc' := 301) zd_Law_law_298 (by decide) rfl (fun q => absurd q c40) (fun _ => ?_)
        refine zg_iconst (x := (0 : Int32)) (pc' := 302) zd_Law_law_301 (by decide) rfl ?_
        obtain ⟨rfl, rfl⟩ := rt_q h
        exact zg_iret zd_Law_law_302 (zrt_z (by decide))
    rcases br_some h with ⟨c41, h⟩ | ⟨c41, h⟩
    · refine zg_tabI (tgt := 303) (3 : Int32) zd_Law_law_33 c41 (by decide) (by decide) rfl (by decide) ?_
      refine zg_aload_n (pc' := 304) zd_Law_law_303 rfl rfl ?_
      refine zg_aload_n (pc' := 305) zd_Law_law_304 rfl rfl ?_
      refine zg_iload_n (pc' := 306) zd_Law_law_305 rfl rfl ?_
      refine zg_iconst (x := (1 : Int32)) (pc' := 307) zd_Law_law_306 (by decide) rfl ?_
      refine zg_iadd (pc' := 308) zd_Law_law_307 rfl ?_
      obtain ⟨g42, h⟩ := gd_some h
      refine zg_sld (pc' := 309) zd_Law_law_308 (gB_ok g42) rfl ?_
      refine zg_aload_n (pc' := 310) zd_Law_law_309 rfl rfl ?_
      refine zg_iload_n (pc' := 311) zd_Law_law_310 rfl rfl ?_
      refine zg_iconst (x := (2 : Int32)) (pc' := 312) zd_Law_law_311 (by decide) rfl ?_
      refine zg_iadd (pc' := 313) zd_Law_law_312 rfl ?_
      obtain ⟨g43, h⟩ := gd_some h
      refine zg_sld (pc' := 314) zd_Law_law_313 (gB_ok g43) rfl ?_
      obtain ⟨g44, h⟩ := gd_some h
      obtain ⟨r47, S45, e46, h⟩ := bq_some h
      refine zg_callV (ci := 9) (As := [.int (X.2 (a3 + (1 : Int32)).toNatClampNeg), .int (X.2 (a3 + (2 : Int32)).toNatClampNeg)]) (rest := []) (pc' := 317) zl_Law_27 zq405 zq406 ⟨_, rfl, rfl⟩ zd_Law_law_314 rfl rfl (Nat.le_of_ble_eq_true rfl) (by omega) (gT_ok g44) (tm_Ls_peg (d := 3) (Nat.le_refl _) e46) rfl ?_
      refine zg_st (st' := [.int r47]) rfl ?_
      refine zg_aload_n (pc' := 318) zd_Law_law_317 rfl rfl ?_
      refine zg_aload_n (pc' := 319) zd_Law_law_318 rfl rfl ?_
      refine zg_iload_n (pc' := 320) zd_Law_law_319 rfl rfl ?_
      refine zg_iconst (x := (1 : Int32)) (pc' := 321) zd_Law_law_320 (by decide) rfl ?_
      refine zg_iadd (pc' := 322) zd_Law_law_321 rfl ?_
      refine zg_sld (pc' := 323) zd_Law_law_322 (gB_ok g42) rfl ?_
      refine zg_aload_n (pc' := 324) zd_Law_law_323 rfl rfl ?_
      refine zg_iload_n (pc' := 325) zd_Law_law_324 rfl rfl ?_
      refine zg_iconst (x := (2 : Int32)) (pc' := 326) zd_Law_law_325 (by decide) rfl ?_
      refine zg_iadd (pc' := 327) zd_Law_law_326 rfl ?_
      refine zg_sld (pc' := 328) zd_Law_law_327 (gB_ok g43) rfl ?_
      obtain ⟨g48, h⟩ := gd_some h
      obtain ⟨r51, S49, e50, h⟩ := bq_some h
      refine zg_callV (ci := 10) (As := [.int (X.2 (a3 + (1 : Int32)).toNatClampNeg), .int (X.2 (a3 + (2 : Int32)).toNatClampNeg)]) (rest := [.int r47]) (pc' := 331) zl_Law_30 zq1023 zq1024 ⟨_, rfl, rfl⟩ zd_Law_law_328 rfl rfl (Nat.le_of_ble_eq_true rfl) (by omega) (gT_ok g48) (tm_Mo_peg (d := 72) (Nat.le_refl _) e50) rfl ?_
      refine zg_st (st' := [.int r51, .int r47]) rfl ?_
      rcases br_some h with ⟨c52, h⟩ | ⟨c52, h⟩
      · refine zg_icmp_eq (tgt := 1319) (pc' := 334) zd_Law_law_331 (by decide) rfl (fun _ => ?_) (fun q => absurd c52 q)
        refine zg_iinc (y := (a3 + (6 : Int32))) (L' := [some (.ref 3), some (.ref a1), some (.ref a2), some (.int (a3 + (6 : Int32)))]) (pc' := 1322) zd_Law_law_1319 rfl rfl (by decide) rfl rfl ?_
        refine zg_goto (tgt := 18) zd_Law_law_1322 (by decide) ?_
        exact hK18 _ _ _ _ h
      · refine zg_icmp_eq (tgt := 1319) (pc' := 334) zd_Law_law_331 (by decide) rfl (fun q => absurd q c52) (fun _ => ?_)
        refine zg_iconst (x := (0 : Int32)) (pc' := 335) zd_Law_law_334 (by decide) rfl ?_
        obtain ⟨rfl, rfl⟩ := rt_q h
        exact zg_iret zd_Law_law_335 (zrt_z (by decide))
    rcases br_some h with ⟨c53, h⟩ | ⟨c53, h⟩
    · refine zg_tabI (tgt := 336) (4 : Int32) zd_Law_law_33 c53 (by decide) (by decide) rfl (by decide) ?_
      refine zg_aload_n (pc' := 337) zd_Law_law_336 rfl rfl ?_
      refine zg_aload_n (pc' := 338) zd_Law_law_337 rfl rfl ?_
      refine zg_iload_n (pc' := 339) zd_Law_law_338 rfl rfl ?_
      refine zg_iconst (x := (1 : Int32)) (pc' := 340) zd_Law_law_339 (by decide) rfl ?_
      refine zg_iadd (pc' := 341) zd_Law_law_340 rfl ?_
      obtain ⟨g54, h⟩ := gd_some h
      refine zg_sld (pc' := 342) zd_Law_law_341 (gB_ok g54) rfl ?_
      refine zg_aload_n (pc' := 343) zd_Law_law_342 rfl rfl ?_
      refine zg_iload_n (pc' := 344) zd_Law_law_343 rfl rfl ?_
      refine zg_iconst (x := (2 : Int32)) (pc' := 345) zd_Law_law_344 (by decide) rfl ?_
      refine zg_iadd (pc' := 346) zd_Law_law_345 rfl ?_
      obtain ⟨g55, h⟩ := gd_some h
      refine zg_sld (pc' := 347) zd_Law_law_346 (gB_ok g55) rfl ?_
      refine zg_aload_n (pc' := 348) zd_Law_law_347 rfl rfl ?_
      refine zg_iload_n (pc' := 349) zd_Law_law_348 rfl rfl ?_
      refine zg_iconst (x := (3 : Int32)) (pc' := 350) zd_Law_law_349 (by decide) rfl ?_
      refine zg_iadd (pc' := 351) zd_Law_law_350 rfl ?_
      obtain ⟨g56, h⟩ := gd_some h
      refine zg_sld (pc' := 352) zd_Law_law_351 (gB_ok g56) rfl ?_
      obtain ⟨g57, h⟩ := gd_some h
      obtain ⟨r60, S58, e59, h⟩ := bq_some h
      refine zg_callV (ci := 9) (As := [.int (X.2 (a3 + (1 : Int32)).toNatClampNeg), .int (X.2 (a3 + (2 : Int32)).toNatClampNeg), .int (X.2 (a3 + (3 : Int32)).toNatClampNeg)]) (rest := []) (pc' := 355) zl_Law_31 zq409 zq410 ⟨_, rfl, rfl⟩ zd_Law_law_352 rfl rfl (Nat.le_of_ble_eq_true rfl) (by omega) (gT_ok g57) (tm_Ls_novice (d := 3) (Nat.le_refl _) e59) rfl ?_
      refine zg_st (st' := [.int r60]) rfl ?_
      refine zg_aload_n (pc' := 356) zd_Law_law_355 rfl rfl ?_
      refine zg_aload_n (pc' := 357) zd_Law_law_356 rfl rfl ?_
      refine zg_iload_n (pc' := 358) zd_Law_law_357 rfl rfl ?_
      refine zg_iconst (x := (1 : Int32)) (pc' := 359) zd_Law_law_358 (by decide) rfl ?_
      refine zg_iadd (pc' := 360) zd_Law_law_359 rfl ?_
      refine zg_sld (pc' := 361) zd_Law_law_360 (gB_ok g54) rfl ?_
      refine zg_aload_n (pc' := 362) zd_Law_law_361 rfl rfl ?_
      refine zg_iload_n (pc' := 363) zd_Law_law_362 rfl rfl ?_
      refine zg_iconst (x := (2 : Int32)) (pc' := 364) zd_Law_law_363 (by decide) rfl ?_
      refine zg_iadd (pc' := 365) zd_Law_law_364 rfl ?_
      refine zg_sld (pc' := 366) zd_Law_law_365 (gB_ok g55) rfl ?_
      refine zg_aload_n (pc' := 367) zd_Law_law_366 rfl rfl ?_
      refine zg_iload_n (pc' := 368) zd_Law_law_367 rfl rfl ?_
      refine zg_iconst (x := (3 : Int32)) (pc' := 369) zd_Law_law_368 (by decide) rfl ?_
      refine zg_iadd (pc' := 370) zd_Law_law_369 rfl ?_
      refine zg_sld (pc' := 371) zd_Law_law_370 (gB_ok g56) rfl ?_
      obtain ⟨g61, h⟩ := gd_some h
      obtain ⟨r64, S62, e63, h⟩ := bq_some h
      refine zg_callV (ci := 10) (As := [.int (X.2 (a3 + (1 : Int32)).toNatClampNeg), .int (X.2 (a3 + (2 : Int32)).toNatClampNeg), .int (X.2 (a3 + (3 : Int32)).toNatClampNeg)]) (rest := [.int r60]) (pc' := 374) zl_Law_34 zq1028 zq1029 ⟨_, rfl, rfl⟩ zd_Law_law_371 rfl rfl (Nat.le_of_ble_eq_true rfl) (by omega) (gT_ok g61) (tm_Mo_novice (d := 4) (Nat.le_refl _) e63) rfl ?_
      refine zg_st (st' := [.int r64, .int r60]) rfl ?_
      rcases br_some h with ⟨c65, h⟩ | ⟨c65, h⟩
      · refine zg_icmp_eq (tgt := 1319) (pc' := 377) zd_Law_law_374 (by decide) rfl (fun _ => ?_) (fun q => absurd c65 q)
        refine zg_iinc (y := (a3 + (6 : Int32))) (L' := [some (.ref 3), some (.ref a1), some (.ref a2), some (.int (a3 + (6 : Int32)))]) (pc' := 1322) zd_Law_law_1319 rfl rfl (by decide) rfl rfl ?_
        refine zg_goto (tgt := 18) zd_Law_law_1322 (by decide) ?_
        exact hK18 _ _ _ _ h
      · refine zg_icmp_eq (tgt := 1319) (pc' := 377) zd_Law_law_374 (by decide) rfl (fun q => absurd q c65) (fun _ => ?_)
        refine zg_iconst (x := (0 : Int32)) (pc' := 378) zd_Law_law_377 (by decide) rfl ?_
        obtain ⟨rfl, rfl⟩ := rt_q h
        exact zg_iret zd_Law_law_378 (zrt_z (by decide))
    rcases br_some h with ⟨c66, h⟩ | ⟨c66, h⟩
    · refine zg_tabI (tgt := 379) (5 : Int32) zd_Law_law_33 c66 (by decide) (by decide) rfl (by decide) ?_
      refine zg_aload_n (pc' := 380) zd_Law_law_379 rfl rfl ?_
      refine zg_aload_n (pc' := 381) zd_Law_law_380 rfl rfl ?_
      refine zg_iload_n (pc' := 382) zd_Law_law_381 rfl rfl ?_
      refine zg_iconst (x := (1 : Int32)) (pc' := 383) zd_Law_law_382 (by decide) rfl ?_
      refine zg_iadd (pc' := 384) zd_Law_law_383 rfl ?_
      obtain ⟨g67, h⟩ := gd_some h
      refine zg_sld (pc' := 385) zd_Law_law_384 (gB_ok g67) rfl ?_
      refine zg_aload_n (pc' := 386) zd_Law_law_385 rfl rfl ?_
      refine zg_iload_n (pc' := 387) zd_Law_law_386 rfl rfl ?_
      refine zg_iconst (x := (2 : Int32)) (pc' := 388) zd_Law_law_387 (by decide) rfl ?_
      refine zg_iadd (pc' := 389) zd_Law_law_388 rfl ?_
      obtain ⟨g68, h⟩ := gd_some h
      refine zg_sld (pc' := 390) zd_Law_law_389 (gB_ok g68) rfl ?_
      obtain ⟨g69, h⟩ := gd_some h
      obtain ⟨r72, S70, e71, h⟩ := bq_some h
      refine zg_callV (ci := 9) (As := [.int (X.2 (a3 + (1 : Int32)).toNatClampNeg), .int (X.2 (a3 + (2 : Int32)).toNatClampNeg)]) (rest := []) (pc' := 393) zl_Law_35 zq413 zq414 ⟨_, rfl, rfl⟩ zd_Law_law_390 rfl rfl (Nat.le_of_ble_eq_true rfl) (by omega) (gT_ok g69) (tm_Ls_use (d := 6) (Nat.le_refl _) e71) rfl ?_
      refine zg_st (st' := [.int r72]) rfl ?_
      refine zg_aload_n (pc' := 394) zd_Law_law_393 rfl rfl ?_
      refine zg_aload_n (pc' := 395) zd_Law_law_394 rfl rfl ?_
      refine zg_iload_n (pc' := 396) zd_Law_law_395 rfl rfl ?_
      refine zg_iconst (x := (1 : Int32)) (pc' := 397) zd_Law_law_396 (by decide) rfl ?_
      refine zg_iadd (pc' := 398) zd_Law_law_397 rfl ?_
      refine zg_sld (pc' := 399) zd_Law_law_398 (gB_ok g67) rfl ?_
      refine zg_aload_n (pc' := 400) zd_Law_law_399 rfl rfl ?_
      refine zg_iload_n (pc' := 401) zd_Law_law_400 rfl rfl ?_
      refine zg_iconst (x := (2 : Int32)) (pc' := 402) zd_Law_law_401 (by decide) rfl ?_
      refine zg_iadd (pc' := 403) zd_Law_law_402 rfl ?_
      refine zg_sld (pc' := 404) zd_Law_law_403 (gB_ok g68) rfl ?_
      obtain ⟨g73, h⟩ := gd_some h
      obtain ⟨r76, S74, e75, h⟩ := bq_some h
      refine zg_callV (ci := 10) (As := [.int (X.2 (a3 + (1 : Int32)).toNatClampNeg), .int (X.2 (a3 + (2 : Int32)).toNatClampNeg)]) (rest := [.int r72]) (pc' := 407) zl_Law_38 zq1032 zq1033 ⟨_, rfl, rfl⟩ zd_Law_law_404 rfl rfl (Nat.le_of_ble_eq_true rfl) (by omega) (gT_ok g73) (tm_Mo_use (d := 72) (Nat.le_refl _) e75) rfl ?_
      refine zg_st (st' := [.int r76, .int r72]) rfl ?_
      rcases br_some h with ⟨c77, h⟩ | ⟨c77, h⟩
      · refine zg_icmp_eq (tgt := 1319) (pc' := 410) zd_Law_law_407 (by decide) rfl (fun _ => ?_) (fun q => absurd c77 q)
        refine zg_iinc (y := (a3 + (6 : Int32))) (L' := [some (.ref 3), some (.ref a1), some (.ref a2), some (.int (a3 + (6 : Int32)))]) (pc' := 1322) zd_Law_law_1319 rfl rfl (by decide) rfl rfl ?_
        refine zg_goto (tgt := 18) zd_Law_law_1322 (by decide) ?_
        exact hK18 _ _ _ _ h
      · refine zg_icmp_eq (tgt := 1319) (pc' := 410) zd_Law_law_407 (by decide) rfl (fun q => absurd q c77) (fun _ => ?_)
        refine zg_iconst (x := (0 : Int32)) (pc' := 411) zd_Law_law_410 (by decide) rfl ?_
        obtain ⟨rfl, rfl⟩ := rt_q h
        exact zg_iret zd_Law_law_411 (zrt_z (by decide))
    rcases br_some h with ⟨c78, h⟩ | ⟨c78, h⟩
    · refine zg_tabI (tgt := 412) (6 : Int32) zd_Law_law_33 c78 (by decide) (by decide) rfl (by decide) ?_
      refine zg_aload_n (pc' := 413) zd_Law_law_412 rfl rfl ?_
      refine zg_aload_n (pc' := 414) zd_Law_law_413 rfl rfl ?_
      refine zg_iload_n (pc' := 415) zd_Law_law_414 rfl rfl ?_
      refine zg_iconst (x := (1 : Int32)) (pc' := 416) zd_Law_law_415 (by decide) rfl ?_
      refine zg_iadd (pc' := 417) zd_Law_law_416 rfl ?_
      obtain ⟨g79, h⟩ := gd_some h
      refine zg_sld (pc' := 418) zd_Law_law_417 (gB_ok g79) rfl ?_
      refine zg_aload_n (pc' := 419) zd_Law_law_418 rfl rfl ?_
      refine zg_iload_n (pc' := 420) zd_Law_law_419 rfl rfl ?_
      refine zg_iconst (x := (2 : Int32)) (pc' := 421) zd_Law_law_420 (by decide) rfl ?_
      refine zg_iadd (pc' := 422) zd_Law_law_421 rfl ?_
      obtain ⟨g80, h⟩ := gd_some h
      refine zg_sld (pc' := 423) zd_Law_law_422 (gB_ok g80) rfl ?_
      refine zg_aload_n (pc' := 424) zd_Law_law_423 rfl rfl ?_
      refine zg_iload_n (pc' := 425) zd_Law_law_424 rfl rfl ?_
      refine zg_iconst (x := (3 : Int32)) (pc' := 426) zd_Law_law_425 (by decide) rfl ?_
      refine zg_iadd (pc' := 427) zd_Law_law_426 rfl ?_
      obtain ⟨g81, h⟩ := gd_some h
      refine zg_sld (pc' := 428) zd_Law_law_427 (gB_ok g81) rfl ?_
      obtain ⟨g82, h⟩ := gd_some h
      obtain ⟨r85, S83, e84, h⟩ := bq_some h
      refine zg_callV (ci := 9) (As := [.int (X.2 (a3 + (1 : Int32)).toNatClampNeg), .int (X.2 (a3 + (2 : Int32)).toNatClampNeg), .int (X.2 (a3 + (3 : Int32)).toNatClampNeg)]) (rest := []) (pc' := 431) zl_Law_39 zq426 zq427 ⟨_, rfl, rfl⟩ zd_Law_law_428 rfl rfl (Nat.le_of_ble_eq_true rfl) (by omega) (gT_ok g82) (tm_Ls_row (d := 3) (Nat.le_refl _) e84) rfl ?_
      refine zg_st (st' := [.int r85]) rfl ?_
      refine zg_aload_n (pc' := 432) zd_Law_law_431 rfl rfl ?_
      refine zg_aload_n (pc' := 433) zd_Law_law_432 rfl rfl ?_
      refine zg_iload_n (pc' := 434) zd_Law_law_433 rfl rfl ?_
      refine zg_iconst (x := (1 : Int32)) (pc' := 435) zd_Law_law_434 (by decide) rfl ?_
      refine zg_iadd (pc' := 436) zd_Law_law_435 rfl ?_
      refine zg_sld (pc' := 437) zd_Law_law_436 (gB_ok g79) rfl ?_
      refine zg_aload_n (pc' := 438) zd_Law_law_437 rfl rfl ?_
      refine zg_iload_n (pc' := 439) zd_Law_law_438 rfl rfl ?_
      refine zg_iconst (x := (2 : Int32)) (pc' := 440) zd_Law_law_439 (by decide) rfl ?_
      refine zg_iadd (pc' := 441) zd_Law_law_440 rfl ?_
      refine zg_sld (pc' := 442) zd_Law_law_441 (gB_ok g80) rfl ?_
      refine zg_aload_n (pc' := 443) zd_Law_law_442 rfl rfl ?_
      refine zg_iload_n (pc' := 444) zd_Law_law_443 rfl rfl ?_
      refine zg_iconst (x := (3 : Int32)) (pc' := 445) zd_Law_law_444 (by decide) rfl ?_
      refine zg_iadd (pc' := 446) zd_Law_law_445 rfl ?_
      refine zg_sld (pc' := 447) zd_Law_law_446 (gB_ok g81) rfl ?_
      obtain ⟨g86, h⟩ := gd_some h
      obtain ⟨r89, S87, e88, h⟩ := bq_some h
      refine zg_callV (ci := 10) (As := [.int (X.2 (a3 + (1 : Int32)).toNatClampNeg), .int (X.2 (a3 + (2 : Int32)).toNatClampNeg), .int (X.2 (a3 + (3 : Int32)).toNatClampNeg)]) (rest := [.int r85]) (pc' := 450) zl_Law_42 zq1040 zq1041 ⟨_, rfl, rfl⟩ zd_Law_law_447 rfl rfl (Nat.le_of_ble_eq_true rfl) (by omega) (gT_ok g86) (tm_Mo_row (d := 4) (Nat.le_refl _) e88) rfl ?_
      refine zg_st (st' := [.int r89, .int r85]) rfl ?_
      rcases br_some h with ⟨c90, h⟩ | ⟨c90, h⟩
      · refine zg_icmp_eq (tgt := 1319) (pc' := 453) zd_Law_law_450 (by decide) rfl (fun _ => ?_) (fun q => absurd c90 q)
        refine zg_iinc (y := (a3 + (6 : Int32))) (L' := [some (.ref 3), some (.ref a1), some (.ref a2), some (.int (a3 + (6 : Int32)))]) (pc' := 1322) zd_Law_law_1319 rfl rfl (by decide) rfl rfl ?_
        refine zg_goto (tgt := 18) zd_Law_law_1322 (by decide) ?_
        exact hK18 _ _ _ _ h
      · refine zg_icmp_eq (tgt := 1319) (pc' := 453) zd_Law_law_450 (by decide) rfl (fun q => absurd q c90) (fun _ => ?_)
        refine zg_iconst (x := (0 : Int32)) (pc' := 454) zd_Law_law_453 (by decide) rfl ?_
        obtain ⟨rfl, rfl⟩ := rt_q h
        exact zg_iret zd_Law_law_454 (zrt_z (by decide))
    rcases br_some h with ⟨c91, h⟩ | ⟨c91, h⟩
    · refine zg_tabI (tgt := 455) (7 : Int32) zd_Law_law_33 c91 (by decide) (by decide) rfl (by decide) ?_
      refine zg_aload_n (pc' := 456) zd_Law_law_455 rfl rfl ?_
      refine zg_aload_n (pc' := 457) zd_Law_law_456 rfl rfl ?_
      refine zg_iload_n (pc' := 458) zd_Law_law_457 rfl rfl ?_
      refine zg_iconst (x := (1 : Int32)) (pc' := 459) zd_Law_law_458 (by decide) rfl ?_
      refine zg_iadd (pc' := 460) zd_Law_law_459 rfl ?_
      obtain ⟨g92, h⟩ := gd_some h
      refine zg_sld (pc' := 461) zd_Law_law_460 (gB_ok g92) rfl ?_
      obtain ⟨g93, h⟩ := gd_some h
      obtain ⟨r96, S94, e95, h⟩ := bq_some h
      refine zg_callV (ci := 9) (As := [.int (X.2 (a3 + (1 : Int32)).toNatClampNeg)]) (rest := []) (pc' := 464) zl_Law_43 zq430 zq431 ⟨_, rfl, rfl⟩ zd_Law_law_461 rfl rfl (Nat.le_of_ble_eq_true rfl) (by omega) (gT_ok g93) (tm_Ls_feed (d := 2) (Nat.le_refl _) e95) rfl ?_
      refine zg_st (st' := [.int r96]) rfl ?_
      refine zg_aload_n (pc' := 465) zd_Law_law_464 rfl rfl ?_
      refine zg_aload_n (pc' := 466) zd_Law_law_465 rfl rfl ?_
      refine zg_iload_n (pc' := 467) zd_Law_law_466 rfl rfl ?_
      refine zg_iconst (x := (1 : Int32)) (pc' := 468) zd_Law_law_467 (by decide) rfl ?_
      refine zg_iadd (pc' := 469) zd_Law_law_468 rfl ?_
      refine zg_sld (pc' := 470) zd_Law_law_469 (gB_ok g92) rfl ?_
      obtain ⟨g97, h⟩ := gd_some h
      obtain ⟨r100, S98, e99, h⟩ := bq_some h
      refine zg_callV (ci := 10) (As := [.int (X.2 (a3 + (1 : Int32)).toNatClampNeg)]) (rest := [.int r96]) (pc' := 473) zl_Law_47 zq1044 zq1045 ⟨_, rfl, rfl⟩ zd_Law_law_470 rfl rfl (Nat.le_of_ble_eq_true rfl) (by omega) (gT_ok g97) (tm_Mo_feed (d := 3) (Nat.le_refl _) e99) rfl ?_
      refine zg_st (st' := [.int r100, .int r96]) rfl ?_
      rcases br_some h with ⟨c101, h⟩ | ⟨c101, h⟩
      · refine zg_icmp_eq (tgt := 1319) (pc' := 476) zd_Law_law_473 (by decide) rfl (fun _ => ?_) (fun q => absurd c101 q)
        refine zg_iinc (y := (a3 + (6 : Int32))) (L' := [some (.ref 3), some (.ref a1), some (.ref a2), some (.int (a3 + (6 : Int32)))]) (pc' := 1322) zd_Law_law_1319 rfl rfl (by decide) rfl rfl ?_
        refine zg_goto (tgt := 18) zd_Law_law_1322 (by decide) ?_
        exact hK18 _ _ _ _ h
      · refine zg_icmp_eq (tgt := 1319) (pc' := 476) zd_Law_law_473 (by decide) rfl (fun q => absurd q c101) (fun _ => ?_)
        refine zg_iconst (x := (0 : Int32)) (pc' := 477) zd_Law_law_476 (by decide) rfl ?_
        obtain ⟨rfl, rfl⟩ := rt_q h
        exact zg_iret zd_Law_law_477 (zrt_z (by decide))
    rcases br_some h with ⟨c102, h⟩ | ⟨c102, h⟩
    · refine zg_tabI (tgt := 478) (8 : Int32) zd_Law_law_33 c102 (by decide) (by decide) rfl (by decide) ?_
      refine zg_aload_n (pc' := 479) zd_Law_law_478 rfl rfl ?_
      obtain ⟨g103, h⟩ := gd_some h
      obtain ⟨r106, S104, e105, h⟩ := bq_some h
      refine zg_callV (ci := 9) (As := []) (rest := []) (pc' := 482) zl_Law_48 zq434 zq435 ⟨_, rfl, rfl⟩ zd_Law_law_479 rfl rfl (Nat.le_of_ble_eq_true rfl) (by omega) (gT_ok g103) (tm_Ls_order (d := 68) (Nat.le_refl _) e105) rfl ?_
      refine zg_st (st' := [.int r106]) rfl ?_
      refine zg_aload_n (pc' := 483) zd_Law_law_482 rfl rfl ?_
      obtain ⟨g107, h⟩ := gd_some h
      obtain ⟨r110, S108, e109, h⟩ := bq_some h
      refine zg_callV (ci := 10) (As := []) (rest := [.int r106]) (pc' := 486) zl_Law_52 zq1048 zq1049 ⟨_, rfl, rfl⟩ zd_Law_law_483 rfl rfl (Nat.le_of_ble_eq_true rfl) (by omega) (gT_ok g107) (tm_Mo_order (d := 68) (Nat.le_refl _) e109) rfl ?_
      refine zg_st (st' := [.int r110, .int r106]) rfl ?_
      rcases br_some h with ⟨c111, h⟩ | ⟨c111, h⟩
      · refine zg_icmp_eq (tgt := 1319) (pc' := 489) zd_Law_law_486 (by decide) rfl (fun _ => ?_) (fun q => absurd c111 q)
        refine zg_iinc (y := (a3 + (6 : Int32))) (L' := [some (.ref 3), some (.ref a1), some (.ref a2), some (.int (a3 + (6 : Int32)))]) (pc' := 1322) zd_Law_law_1319 rfl rfl (by decide) rfl rfl ?_
        refine zg_goto (tgt := 18) zd_Law_law_1322 (by decide) ?_
        exact hK18 _ _ _ _ h
      · refine zg_icmp_eq (tgt := 1319) (pc' := 489) zd_Law_law_486 (by decide) rfl (fun q => absurd q c111) (fun _ => ?_)
        refine zg_iconst (x := (0 : Int32)) (pc' := 490) zd_Law_law_489 (by decide) rfl ?_
        obtain ⟨rfl, rfl⟩ := rt_q h
        exact zg_iret zd_Law_law_490 (zrt_z (by decide))
    rcases br_some h with ⟨c112, h⟩ | ⟨c112, h⟩
    · refine zg_tabI (tgt := 491) (9 : Int32) zd_Law_law_33 c112 (by decide) (by decide) rfl (by decide) ?_
      refine zg_aload_n (pc' := 492) zd_Law_law_491 rfl rfl ?_
      refine zg_aload_n (pc' := 493) zd_Law_law_492 rfl rfl ?_
      refine zg_iload_n (pc' := 494) zd_Law_law_493 rfl rfl ?_
      refine zg_iconst (x := (1 : Int32)) (pc' := 495) zd_Law_law_494 (by decide) rfl ?_
      refine zg_iadd (pc' := 496) zd_Law_law_495 rfl ?_
      obtain ⟨g113, h⟩ := gd_some h
      refine zg_sld (pc' := 497) zd_Law_law_496 (gB_ok g113) rfl ?_
      obtain ⟨g114, h⟩ := gd_some h
      obtain ⟨r117, S115, e116, h⟩ := bq_some h
      refine zg_callV (ci := 9) (As := [.int (X.2 (a3 + (1 : Int32)).toNatClampNeg)]) (rest := []) (pc' := 500) zl_Law_53 zq540 zq541 ⟨_, rfl, rfl⟩ zd_Law_law_497 rfl rfl (Nat.le_of_ble_eq_true rfl) (by omega) (gT_ok g114) (tm_Ls_told (d := 66) (Nat.le_refl _) e116) rfl ?_
      refine zg_st (st' := [.int r117]) rfl ?_
      refine zg_aload_n (pc' := 501) zd_Law_law_500 rfl rfl ?_
      refine zg_aload_n (pc' := 502) zd_Law_law_501 rfl rfl ?_
      refine zg_iload_n (pc' := 503) zd_Law_law_502 rfl rfl ?_
      refine zg_iconst (x := (1 : Int32)) (pc' := 504) zd_Law_law_503 (by decide) rfl ?_
      refine zg_iadd (pc' := 505) zd_Law_law_504 rfl ?_
      refine zg_sld (pc' := 506) zd_Law_law_505 (gB_ok g113) rfl ?_
      obtain ⟨g118, h⟩ := gd_some h
      obtain ⟨r121, S119, e120, h⟩ := bq_some h
      refine zg_callV (ci := 10) (As := [.int (X.2 (a3 + (1 : Int32)).toNatClampNeg)]) (rest := [.int r117]) (pc' := 509) zl_Law_56 zq1052 zq1053 ⟨_, rfl, rfl⟩ zd_Law_law_506 rfl rfl (Nat.le_of_ble_eq_true rfl) (by omega) (gT_ok g118) (tm_Mo_told (d := 74) (Nat.le_refl _) e120) rfl ?_
      refine zg_st (st' := [.int r121, .int r117]) rfl ?_
      rcases br_some h with ⟨c122, h⟩ | ⟨c122, h⟩
      · refine zg_icmp_eq (tgt := 1319) (pc' := 512) zd_Law_law_509 (by decide) rfl (fun _ => ?_) (fun q => absurd c122 q)
        refine zg_iinc (y := (a3 + (6 : Int32))) (L' := [some (.ref 3), some (.ref a1), some (.ref a2), some (.int (a3 + (6 : Int32)))]) (pc' := 1322) zd_Law_law_1319 rfl rfl (by decide) rfl rfl ?_
        refine zg_goto (tgt := 18) zd_Law_law_1322 (by decide) ?_
        exact hK18 _ _ _ _ h
      · refine zg_icmp_eq (tgt := 1319) (pc' := 512) zd_Law_law_509 (by decide) rfl (fun q => absurd q c122) (fun _ => ?_)
        refine zg_iconst (x := (0 : Int32)) (pc' := 513) zd_Law_law_512 (by decide) rfl ?_
        obtain ⟨rfl, rfl⟩ := rt_q h
        exact zg_iret zd_Law_law_513 (zrt_z (by decide))
    rcases br_some h with ⟨c123, h⟩ | ⟨c123, h⟩
    · refine zg_tabI (tgt := 514) (10 : Int32) zd_Law_law_33 c123 (by decide) (by decide) rfl (by decide) ?_
      refine zg_aload_n (pc' := 515) zd_Law_law_514 rfl rfl ?_
      refine zg_aload_n (pc' := 516) zd_Law_law_515 rfl rfl ?_
      refine zg_iload_n (pc' := 517) zd_Law_law_516 rfl rfl ?_
      refine zg_iconst (x := (1 : Int32)) (pc' := 518) zd_Law_law_517 (by decide) rfl ?_
      refine zg_iadd (pc' := 519) zd_Law_law_518 rfl ?_
      obtain ⟨g124, h⟩ := gd_some h
      refine zg_sld (pc' := 520) zd_Law_law_519 (gB_ok g124) rfl ?_
      obtain ⟨g125, h⟩ := gd_some h
      obtain ⟨r128, S126, e127, h⟩ := bq_some h
      refine zg_callV (ci := 9) (As := [.int (X.2 (a3 + (1 : Int32)).toNatClampNeg)]) (rest := []) (pc' := 523) zl_Law_57 zq608 zq609 ⟨_, rfl, rfl⟩ zd_Law_law_520 rfl rfl (Nat.le_of_ble_eq_true rfl) (by omega) (gT_ok g125) (tm_Ls_pass (d := 8) (Nat.le_refl _) e127) rfl ?_
      refine zg_st (st' := [.int r128]) rfl ?_
      refine zg_aload_n (pc' := 524) zd_Law_law_523 rfl rfl ?_
      refine zg_aload_n (pc' := 525) zd_Law_law_524 rfl rfl ?_
      refine zg_iload_n (pc' := 526) zd_Law_law_525 rfl rfl ?_
      refine zg_iconst (x := (1 : Int32)) (pc' := 527) zd_Law_law_526 (by decide) rfl ?_
      refine zg_iadd (pc' := 528) zd_Law_law_527 rfl ?_
      refine zg_sld (pc' := 529) zd_Law_law_528 (gB_ok g124) rfl ?_
      obtain ⟨g129, h⟩ := gd_some h
      obtain ⟨r132, S130, e131, h⟩ := bq_some h
      refine zg_callV (ci := 10) (As := [.int (X.2 (a3 + (1 : Int32)).toNatClampNeg)]) (rest := [.int r128]) (pc' := 532) zl_Law_60 zq1087 zq1088 ⟨_, rfl, rfl⟩ zd_Law_law_529 rfl rfl (Nat.le_of_ble_eq_true rfl) (by omega) (gT_ok g129) (tm_Mo_pass (d := 73) (Nat.le_refl _) e131) rfl ?_
      refine zg_st (st' := [.int r132, .int r128]) rfl ?_
      rcases br_some h with ⟨c133, h⟩ | ⟨c133, h⟩
      · refine zg_icmp_eq (tgt := 1319) (pc' := 535) zd_Law_law_532 (by decide) rfl (fun _ => ?_) (fun q => absurd c133 q)
        refine zg_iinc (y := (a3 + (6 : Int32))) (L' := [some (.ref 3), some (.ref a1), some (.ref a2), some (.int (a3 + (6 : Int32)))]) (pc' := 1322) zd_Law_law_1319 rfl rfl (by decide) rfl rfl ?_
        refine zg_goto (tgt := 18) zd_Law_law_1322 (by decide) ?_
        exact hK18 _ _ _ _ h
      · refine zg_icmp_eq (tgt := 1319) (pc' := 535) zd_Law_law_532 (by decide) rfl (fun q => absurd q c133) (fun _ => ?_)
        refine zg_iconst (x := (0 : Int32)) (pc' := 536) zd_Law_law_535 (by decide) rfl ?_
        obtain ⟨rfl, rfl⟩ := rt_q h
        exact zg_iret zd_Law_law_536 (zrt_z (by decide))
    rcases br_some h with ⟨c134, h⟩ | ⟨c134, h⟩
    · refine zg_tabI (tgt := 537) (11 : Int32) zd_Law_law_33 c134 (by decide) (by decide) rfl (by decide) ?_
      refine zg_aload_n (pc' := 538) zd_Law_law_537 rfl rfl ?_
      refine zg_aload_n (pc' := 539) zd_Law_law_538 rfl rfl ?_
      refine zg_iload_n (pc' := 540) zd_Law_law_539 rfl rfl ?_
      refine zg_iconst (x := (1 : Int32)) (pc' := 541) zd_Law_law_540 (by decide) rfl ?_
      refine zg_iadd (pc' := 542) zd_Law_law_541 rfl ?_
      obtain ⟨g135, h⟩ := gd_some h
      refine zg_sld (pc' := 543) zd_Law_law_542 (gB_ok g135) rfl ?_
      refine zg_aload_n (pc' := 544) zd_Law_law_543 rfl rfl ?_
      refine zg_iload_n (pc' := 545) zd_Law_law_544 rfl rfl ?_
      refine zg_iconst (x := (2 : Int32)) (pc' := 546) zd_Law_law_545 (by decide) rfl ?_
      refine zg_iadd (pc' := 547) zd_Law_law_546 rfl ?_
      obtain ⟨g136, h⟩ := gd_some h
      refine zg_sld (pc' := 548) zd_Law_law_547 (gB_ok g136) rfl ?_
      obtain ⟨g137, h⟩ := gd_some h
      obtain ⟨r140, S138, e139, h⟩ := bq_some h
      refine zg_callV (ci := 9) (As := [.int (X.2 (a3 + (1 : Int32)).toNatClampNeg), .int (X.2 (a3 + (2 : Int32)).toNatClampNeg)]) (rest := []) (pc' := 551) zl_Law_61 zq617 zq618 ⟨_, rfl, rfl⟩ zd_Law_law_548 rfl rfl (Nat.le_of_ble_eq_true rfl) (by omega) (gT_ok g137) (tm_Ls_on (d := 8) (Nat.le_refl _) e139) rfl ?_
      refine zg_st (st' := [.int r140]) rfl ?_
      refine zg_aload_n (pc' := 552) zd_Law_law_551 rfl rfl ?_
      refine zg_aload_n (pc' := 553) zd_Law_law_552 rfl rfl ?_
      refine zg_iload_n (pc' := 554) zd_Law_law_553 rfl rfl ?_
      refine zg_iconst (x := (1 : Int32)) (pc' := 555) zd_Law_law_554 (by decide) rfl ?_
      refine zg_iadd (pc' := 556) zd_Law_law_555 rfl ?_
      refine zg_sld (pc' := 557) zd_Law_law_556 (gB_ok g135) rfl ?_
      refine zg_aload_n (pc' := 558) zd_Law_law_557 rfl rfl ?_
      refine zg_iload_n (pc' := 559) zd_Law_law_558 rfl rfl ?_
      refine zg_iconst (x := (2 : Int32)) (pc' := 560) zd_Law_law_559 (by decide) rfl ?_
      refine zg_iadd (pc' := 561) zd_Law_law_560 rfl ?_
      refine zg_sld (pc' := 562) zd_Law_law_561 (gB_ok g136) rfl ?_
      obtain ⟨g141, h⟩ := gd_some h
      obtain ⟨r144, S142, e143, h⟩ := bq_some h
      refine zg_callV (ci := 10) (As := [.int (X.2 (a3 + (1 : Int32)).toNatClampNeg), .int (X.2 (a3 + (2 : Int32)).toNatClampNeg)]) (rest := [.int r140]) (pc' := 565) zl_Law_64 zq1091 zq1092 ⟨_, rfl, rfl⟩ zd_Law_law_562 rfl rfl (Nat.le_of_ble_eq_true rfl) (by omega) (gT_ok g141) (tm_Mo_on_ (d := 73) (Nat.le_refl _) e143) rfl ?_
      refine zg_st (st' := [.int r144, .int r140]) rfl ?_
      rcases br_some h with ⟨c145, h⟩ | ⟨c145, h⟩
      · refine zg_icmp_eq (tgt := 1319) (pc' := 568) zd_Law_law_565 (by decide) rfl (fun _ => ?_) (fun q => absurd c145 q)
        refine zg_iinc (y := (a3 + (6 : Int32))) (L' := [some (.ref 3), some (.ref a1), some (.ref a2), some (.int (a3 + (6 : Int32)))]) (pc' := 1322) zd_Law_law_1319 rfl rfl (by decide) rfl rfl ?_
        refine zg_goto (tgt := 18) zd_Law_law_1322 (by decide) ?_
        exact hK18 _ _ _ _ h
      · refine zg_icmp_eq (tgt := 1319) (pc' := 568) zd_Law_law_565 (by decide) rfl (fun q => absurd q c145) (fun _ => ?_)
        refine zg_iconst (x := (0 : Int32)) (pc' := 569) zd_Law_law_568 (by decide) rfl ?_
        obtain ⟨rfl, rfl⟩ := rt_q h
        exact zg_iret zd_Law_law_569 (zrt_z (by decide))
    rcases br_some h with ⟨c146, h⟩ | ⟨c146, h⟩
    · refine zg_tabI (tgt := 570) (12 : Int32) zd_Law_law_33 c146 (by decide) (by decide) rfl (by decide) ?_
      refine zg_aload_n (pc' := 571) zd_Law_law_570 rfl rfl ?_
      refine zg_aload_n (pc' := 572) zd_Law_law_571 rfl rfl ?_
      refine zg_iload_n (pc' := 573) zd_Law_law_572 rfl rfl ?_
      refine zg_iconst (x := (1 : Int32)) (pc' := 574) zd_Law_law_573 (by decide) rfl ?_
      refine zg_iadd (pc' := 575) zd_Law_law_574 rfl ?_
      obtain ⟨g147, h⟩ := gd_some h
      refine zg_sld (pc' := 576) zd_Law_law_575 (gB_ok g147) rfl ?_
      obtain ⟨g148, h⟩ := gd_some h
      obtain ⟨r151, S149, e150, h⟩ := bq_some h
      refine zg_callV (ci := 9) (As := [.int (X.2 (a3 + (1 : Int32)).toNatClampNeg)]) (rest := []) (pc' := 579) zl_Law_65 zq621 zq622 ⟨_, rfl, rfl⟩ zd_Law_law_576 rfl rfl (Nat.le_of_ble_eq_true rfl) (by omega) (gT_ok g148) (tm_Ls_shared (d := 64) (Nat.le_refl _) e150) rfl ?_
      refine zg_st (st' := [.int r151]) rfl ?_
      refine zg_aload_n (pc' := 580) zd_Law_law_579 rfl rfl ?_
      refine zg_aload_n (pc' := 581) zd_Law_law_580 rfl rfl ?_
      refine zg_iload_n (pc' := 582) zd_Law_law_581 rfl rfl ?_
      refine zg_iconst (x := (1 : Int32)) (pc' := 583) zd_Law_law_582 (by decide) rfl ?_
      refine zg_iadd (pc' := 584) zd_Law_law_583 rfl ?_
      refine zg_sld (pc' := 585) zd_Law_law_584 (gB_ok g147) rfl ?_
      obtain ⟨g152, h⟩ := gd_some h
      obtain ⟨r155, S153, e154, h⟩ := bq_some h
      refine zg_callV (ci := 10) (As := [.int (X.2 (a3 + (1 : Int32)).toNatClampNeg)]) (rest := [.int r151]) (pc' := 588) zl_Law_68 zq1095 zq1096 ⟨_, rfl, rfl⟩ zd_Law_law_585 rfl rfl (Nat.le_of_ble_eq_true rfl) (by omega) (gT_ok g152) (tm_Mo_shared (d := 72) (Nat.le_refl _) e154) rfl ?_
      refine zg_st (st' := [.int r155, .int r151]) rfl ?_
      rcases br_some h with ⟨c156, h⟩ | ⟨c156, h⟩
      · refine zg_icmp_eq (tgt := 1319) (pc' := 591) zd_Law_law_588 (by decide) rfl (fun _ => ?_) (fun q => absurd c156 q)
        refine zg_iinc (y := (a3 + (6 : Int32))) (L' := [some (.ref 3), some (.ref a1), some (.ref a2), some (.int (a3 + (6 : Int32)))]) (pc' := 1322) zd_Law_law_1319 rfl rfl (by decide) rfl rfl ?_
        refine zg_goto (tgt := 18) zd_Law_law_1322 (by decide) ?_
        exact hK18 _ _ _ _ h
      · refine zg_icmp_eq (tgt := 1319) (pc' := 591) zd_Law_law_588 (by decide) rfl (fun q => absurd q c156) (fun _ => ?_)
        refine zg_iconst (x := (0 : Int32)) (pc' := 592) zd_Law_law_591 (by decide) rfl ?_
        obtain ⟨rfl, rfl⟩ := rt_q h
        exact zg_iret zd_Law_law_592 (zrt_z (by decide))
    rcases br_some h with ⟨c157, h⟩ | ⟨c157, h⟩
    · refine zg_tabI (tgt := 593) (13 : Int32) zd_Law_law_33 c157 (by decide) (by decide) rfl (by decide) ?_
      refine zg_aload_n (pc' := 594) zd_Law_law_593 rfl rfl ?_
      refine zg_aload_n (pc' := 595) zd_Law_law_594 rfl rfl ?_
      refine zg_iload_n (pc' := 596) zd_Law_law_595 rfl rfl ?_
      refine zg_iconst (x := (1 : Int32)) (pc' := 597) zd_Law_law_596 (by decide) rfl ?_
      refine zg_iadd (pc' := 598) zd_Law_law_597 rfl ?_
      obtain ⟨g158, h⟩ := gd_some h
      refine zg_sld (pc' := 599) zd_Law_law_598 (gB_ok g158) rfl ?_
      refine zg_aload_n (pc' := 600) zd_Law_law_599 rfl rfl ?_
      refine zg_iload_n (pc' := 601) zd_Law_law_600 rfl rfl ?_
      refine zg_iconst (x := (2 : Int32)) (pc' := 602) zd_Law_law_601 (by decide) rfl ?_
      refine zg_iadd (pc' := 603) zd_Law_law_602 rfl ?_
      obtain ⟨g159, h⟩ := gd_some h
      refine zg_sld (pc' := 604) zd_Law_law_603 (gB_ok g159) rfl ?_
      refine zg_aload_n (pc' := 605) zd_Law_law_604 rfl rfl ?_
      refine zg_iload_n (pc' := 606) zd_Law_law_605 rfl rfl ?_
      refine zg_iconst (x := (3 : Int32)) (pc' := 607) zd_Law_law_606 (by decide) rfl ?_
      refine zg_iadd (pc' := 608) zd_Law_law_607 rfl ?_
      obtain ⟨g160, h⟩ := gd_some h
      refine zg_sld (pc' := 609) zd_Law_law_608 (gB_ok g160) rfl ?_
      obtain ⟨g161, h⟩ := gd_some h
      obtain ⟨r164, S162, e163, h⟩ := bq_some h
      refine zg_callV (ci := 9) (As := [.int (X.2 (a3 + (1 : Int32)).toNatClampNeg), .int (X.2 (a3 + (2 : Int32)).toNatClampNeg), .int (X.2 (a3 + (3 : Int32)).toNatClampNeg)]) (rest := []) (pc' := 612) zl_Law_69 zq630 zq631 ⟨_, rfl, rfl⟩ zd_Law_law_609 rfl rfl (Nat.le_of_ble_eq_true rfl) (by omega) (gT_ok g161) (tm_Ls_scrubbed (d := 66) (Nat.le_refl _) e163) rfl ?_
      refine zg_st (st' := [.int r164]) rfl ?_
      refine zg_aload_n (pc' := 613) zd_Law_law_612 rfl rfl ?_
      refine zg_aload_n (pc' := 614) zd_Law_law_613 rfl rfl ?_
      refine zg_iload_n (pc' := 615) zd_Law_law_614 rfl rfl ?_
      refine zg_iconst (x := (1 : Int32)) (pc' := 616) zd_Law_law_615 (by decide) rfl ?_
      refine zg_iadd (pc' := 617) zd_Law_law_616 rfl ?_
      refine zg_sld (pc' := 618) zd_Law_law_617 (gB_ok g158) rfl ?_
      refine zg_aload_n (pc' := 619) zd_Law_law_618 rfl rfl ?_
      refine zg_iload_n (pc' := 620) zd_Law_law_619 rfl rfl ?_
      refine zg_iconst (x := (2 : Int32)) (pc' := 621) zd_Law_law_620 (by decide) rfl ?_
      refine zg_iadd (pc' := 622) zd_Law_law_621 rfl ?_
      refine zg_sld (pc' := 623) zd_Law_law_622 (gB_ok g159) rfl ?_
      refine zg_aload_n (pc' := 624) zd_Law_law_623 rfl rfl ?_
      refine zg_iload_n (pc' := 625) zd_Law_law_624 rfl rfl ?_
      refine zg_iconst (x := (3 : Int32)) (pc' := 626) zd_Law_law_625 (by decide) rfl ?_
      refine zg_iadd (pc' := 627) zd_Law_law_626 rfl ?_
      refine zg_sld (pc' := 628) zd_Law_law_627 (gB_ok g160) rfl ?_
      obtain ⟨g165, h⟩ := gd_some h
      obtain ⟨r168, S166, e167, h⟩ := bq_some h
      refine zg_callV (ci := 10) (As := [.int (X.2 (a3 + (1 : Int32)).toNatClampNeg), .int (X.2 (a3 + (2 : Int32)).toNatClampNeg), .int (X.2 (a3 + (3 : Int32)).toNatClampNeg)]) (rest := [.int r164]) (pc' := 631) zl_Law_72 zq1099 zq1100 ⟨_, rfl, rfl⟩ zd_Law_law_628 rfl rfl (Nat.le_of_ble_eq_true rfl) (by omega) (gT_ok g165) (tm_Mo_scrubbed (d := 132) (Nat.le_refl _) e167) rfl ?_
      refine zg_st (st' := [.int r168, .int r164]) rfl ?_
      rcases br_some h with ⟨c169, h⟩ | ⟨c169, h⟩
      · refine zg_icmp_eq (tgt := 1319) (pc' := 634) zd_Law_law_631 (by decide) rfl (fun _ => ?_) (fun q => absurd c169 q)
        refine zg_iinc (y := (a3 + (6 : Int32))) (L' := [some (.ref 3), some (.ref a1), some (.ref a2), some (.int (a3 + (6 : Int32)))]) (pc' := 1322) zd_Law_law_1319 rfl rfl (by decide) rfl rfl ?_
        refine zg_goto (tgt := 18) zd_Law_law_1322 (by decide) ?_
        exact hK18 _ _ _ _ h
      · refine zg_icmp_eq (tgt := 1319) (pc' := 634) zd_Law_law_631 (by decide) rfl (fun q => absurd q c169) (fun _ => ?_)
        refine zg_iconst (x := (0 : Int32)) (pc' := 635) zd_Law_law_634 (by decide) rfl ?_
        obtain ⟨rfl, rfl⟩ := rt_q h
        exact zg_iret zd_Law_law_635 (zrt_z (by decide))
    rcases br_some h with ⟨c170, h⟩ | ⟨c170, h⟩
    · refine zg_tabI (tgt := 636) (14 : Int32) zd_Law_law_33 c170 (by decide) (by decide) rfl (by decide) ?_
      refine zg_aload_n (pc' := 637) zd_Law_law_636 rfl rfl ?_
      refine zg_aload_n (pc' := 638) zd_Law_law_637 rfl rfl ?_
      refine zg_iload_n (pc' := 639) zd_Law_law_638 rfl rfl ?_
      refine zg_iconst (x := (1 : Int32)) (pc' := 640) zd_Law_law_639 (by decide) rfl ?_
      refine zg_iadd (pc' := 641) zd_Law_law_640 rfl ?_
      obtain ⟨g171, h⟩ := gd_some h
      refine zg_sld (pc' := 642) zd_Law_law_641 (gB_ok g171) rfl ?_
      refine zg_aload_n (pc' := 643) zd_Law_law_642 rfl rfl ?_
      refine zg_iload_n (pc' := 644) zd_Law_law_643 rfl rfl ?_
      refine zg_iconst (x := (2 : Int32)) (pc' := 645) zd_Law_law_644 (by decide) rfl ?_
      refine zg_iadd (pc' := 646) zd_Law_law_645 rfl ?_
      obtain ⟨g172, h⟩ := gd_some h
      refine zg_sld (pc' := 647) zd_Law_law_646 (gB_ok g172) rfl ?_
      refine zg_aload_n (pc' := 648) zd_Law_law_647 rfl rfl ?_
      refine zg_iload_n (pc' := 649) zd_Law_law_648 rfl rfl ?_
      refine zg_iconst (x := (3 : Int32)) (pc' := 650) zd_Law_law_649 (by decide) rfl ?_
      refine zg_iadd (pc' := 651) zd_Law_law_650 rfl ?_
      obtain ⟨g173, h⟩ := gd_some h
      refine zg_sld (pc' := 652) zd_Law_law_651 (gB_ok g173) rfl ?_
      obtain ⟨g174, h⟩ := gd_some h
      obtain ⟨r177, S175, e176, h⟩ := bq_some h
      refine zg_callV (ci := 9) (As := [.int (X.2 (a3 + (1 : Int32)).toNatClampNeg), .int (X.2 (a3 + (2 : Int32)).toNatClampNeg), .int (X.2 (a3 + (3 : Int32)).toNatClampNeg)]) (rest := []) (pc' := 655) zl_Law_73 zq646 zq647 ⟨_, rfl, rfl⟩ zd_Law_law_652 rfl rfl (Nat.le_of_ble_eq_true rfl) (by omega) (gT_ok g174) (tm_Ls_see (d := 3) (Nat.le_refl _) e176) rfl ?_
      refine zg_st (st' := [.int r177]) rfl ?_
      refine zg_aload_n (pc' := 656) zd_Law_law_655 rfl rfl ?_
      refine zg_aload_n (pc' := 657) zd_Law_law_656 rfl rfl ?_
      refine zg_iload_n (pc' := 658) zd_Law_law_657 rfl rfl ?_
      refine zg_iconst (x := (1 : Int32)) (pc' := 659) zd_Law_law_658 (by decide) rfl ?_
      refine zg_iadd (pc' := 660) zd_Law_law_659 rfl ?_
      refine zg_sld (pc' := 661) zd_Law_law_660 (gB_ok g171) rfl ?_
      refine zg_aload_n (pc' := 662) zd_Law_law_661 rfl rfl ?_
      refine zg_iload_n (pc' := 663) zd_Law_law_662 rfl rfl ?_
      refine zg_iconst (x := (2 : Int32)) (pc' := 664) zd_Law_law_663 (by decide) rfl ?_
      refine zg_iadd (pc' := 665) zd_Law_law_664 rfl ?_
      refine zg_sld (pc' := 666) zd_Law_law_665 (gB_ok g172) rfl ?_
      refine zg_aload_n (pc' := 667) zd_Law_law_666 rfl rfl ?_
      refine zg_iload_n (pc' := 668) zd_Law_law_667 rfl rfl ?_
      refine zg_iconst (x := (3 : Int32)) (pc' := 669) zd_Law_law_668 (by decide) rfl ?_
      refine zg_iadd (pc' := 670) zd_Law_law_669 rfl ?_
      refine zg_sld (pc' := 671) zd_Law_law_670 (gB_ok g173) rfl ?_
      obtain ⟨g178, h⟩ := gd_some h
      obtain ⟨r181, S179, e180, h⟩ := bq_some h
      refine zg_callV (ci := 10) (As := [.int (X.2 (a3 + (1 : Int32)).toNatClampNeg), .int (X.2 (a3 + (2 : Int32)).toNatClampNeg), .int (X.2 (a3 + (3 : Int32)).toNatClampNeg)]) (rest := [.int r177]) (pc' := 674) zl_Law_76 zq1107 zq1108 ⟨_, rfl, rfl⟩ zd_Law_law_671 rfl rfl (Nat.le_of_ble_eq_true rfl) (by omega) (gT_ok g178) (tm_Mo_see (d := 4) (Nat.le_refl _) e180) rfl ?_
      refine zg_st (st' := [.int r181, .int r177]) rfl ?_
      rcases br_some h with ⟨c182, h⟩ | ⟨c182, h⟩
      · refine zg_icmp_eq (tgt := 1319) (pc' := 677) zd_Law_law_674 (by decide) rfl (fun _ => ?_) (fun q => absurd c182 q)
        refine zg_iinc (y := (a3 + (6 : Int32))) (L' := [some (.ref 3), some (.ref a1), some (.ref a2), some (.int (a3 + (6 : Int32)))]) (pc' := 1322) zd_Law_law_1319 rfl rfl (by decide) rfl rfl ?_
        refine zg_goto (tgt := 18) zd_Law_law_1322 (by decide) ?_
        exact hK18 _ _ _ _ h
      · refine zg_icmp_eq (tgt := 1319) (pc' := 677) zd_Law_law_674 (by decide) rfl (fun q => absurd q c182) (fun _ => ?_)
        refine zg_iconst (x := (0 : Int32)) (pc' := 678) zd_Law_law_677 (by decide) rfl ?_
        obtain ⟨rfl, rfl⟩ := rt_q h
        exact zg_iret zd_Law_law_678 (zrt_z (by decide))
    rcases br_some h with ⟨c183, h⟩ | ⟨c183, h⟩
    · refine zg_tabI (tgt := 679) (15 : Int32) zd_Law_law_33 c183 (by decide) (by decide) rfl (by decide) ?_
      refine zg_aload_n (pc' := 680) zd_Law_law_679 rfl rfl ?_
      refine zg_aload_n (pc' := 681) zd_Law_law_680 rfl rfl ?_
      refine zg_iload_n (pc' := 682) zd_Law_law_681 rfl rfl ?_
      refine zg_iconst (x := (1 : Int32)) (pc' := 683) zd_Law_law_682 (by decide) rfl ?_
      refine zg_iadd (pc' := 684) zd_Law_law_683 rfl ?_
      obtain ⟨g184, h⟩ := gd_some h
      refine zg_sld (pc' := 685) zd_Law_law_684 (gB_ok g184) rfl ?_
      refine zg_aload_n (pc' := 686) zd_Law_law_685 rfl rfl ?_
      refine zg_iload_n (pc' := 687) zd_Law_law_686 rfl rfl ?_
      refine zg_iconst (x := (2 : Int32)) (pc' := 688) zd_Law_law_687 (by decide) rfl ?_
      refine zg_iadd (pc' := 689) zd_Law_law_688 rfl ?_
      obtain ⟨g185, h⟩ := gd_some h
      refine zg_sld (pc' := 690) zd_Law_law_689 (gB_ok g185) rfl ?_
      obtain ⟨g186, h⟩ := gd_some h
      obtain ⟨r189, S187, e188, h⟩ := bq_some h
      refine zg_callV (ci := 9) (As := [.int (X.2 (a3 + (1 : Int32)).toNatClampNeg), .int (X.2 (a3 + (2 : Int32)).toNatClampNeg)]) (rest := []) (pc' := 693) zl_Law_77 zq658 zq659 ⟨_, rfl, rfl⟩ zd_Law_law_690 rfl rfl (Nat.le_of_ble_eq_true rfl) (by omega) (gT_ok g186) (tm_Ls_holed (d := 5) (Nat.le_refl _) e188) rfl ?_
      refine zg_st (st' := [.int r189]) rfl ?_
      refine zg_aload_n (pc' := 694) zd_Law_law_693 rfl rfl ?_
      refine zg_aload_n (pc' := 695) zd_Law_law_694 rfl rfl ?_
      refine zg_iload_n (pc' := 696) zd_Law_law_695 rfl rfl ?_
      refine zg_iconst (x := (1 : Int32)) (pc' := 697) zd_Law_law_696 (by decide) rfl ?_
      refine zg_iadd (pc' := 698) zd_Law_law_697 rfl ?_
      refine zg_sld (pc' := 699) zd_Law_law_698 (gB_ok g184) rfl ?_
      refine zg_aload_n (pc' := 700) zd_Law_law_699 rfl rfl ?_
      refine zg_iload_n (pc' := 701) zd_Law_law_700 rfl rfl ?_
      refine zg_iconst (x := (2 : Int32)) (pc' := 702) zd_Law_law_701 (by decide) rfl ?_
      refine zg_iadd (pc' := 703) zd_Law_law_702 rfl ?_
      refine zg_sld (pc' := 704) zd_Law_law_703 (gB_ok g185) rfl ?_
      obtain ⟨g190, h⟩ := gd_some h
      obtain ⟨r193, S191, e192, h⟩ := bq_some h
      refine zg_callV (ci := 10) (As := [.int (X.2 (a3 + (1 : Int32)).toNatClampNeg), .int (X.2 (a3 + (2 : Int32)).toNatClampNeg)]) (rest := [.int r189]) (pc' := 707) zl_Law_80 zq1111 zq1112 ⟨_, rfl, rfl⟩ zd_Law_law_704 rfl rfl (Nat.le_of_ble_eq_true rfl) (by omega) (gT_ok g190) (tm_Mo_holed (d := 73) (Nat.le_refl _) e192) rfl ?_
      refine zg_st (st' := [.int r193, .int r189]) rfl ?_
      rcases br_some h with ⟨c194, h⟩ | ⟨c194, h⟩
      · refine zg_icmp_eq (tgt := 1319) (pc' := 710) zd_Law_law_707 (by decide) rfl (fun _ => ?_) (fun q => absurd c194 q)
        refine zg_iinc (y := (a3 + (6 : Int32))) (L' := [some (.ref 3), some (.ref a1), some (.ref a2), some (.int (a3 + (6 : Int32)))]) (pc' := 1322) zd_Law_law_1319 rfl rfl (by decide) rfl rfl ?_
        refine zg_goto (tgt := 18) zd_Law_law_1322 (by decide) ?_
        exact hK18 _ _ _ _ h
      · refine zg_icmp_eq (tgt := 1319) (pc' := 710) zd_Law_law_707 (by decide) rfl (fun q => absurd q c194) (fun _ => ?_)
        refine zg_iconst (x := (0 : Int32)) (pc' := 711) zd_Law_law_710 (by decide) rfl ?_
        obtain ⟨rfl, rfl⟩ := rt_q h
        exact zg_iret zd_Law_law_711 (zrt_z (by decide))
    rcases br_some h with ⟨c195, h⟩ | ⟨c195, h⟩
    · refine zg_tabI (tgt := 712) (16 : Int32) zd_Law_law_33 c195 (by decide) (by decide) rfl (by decide) ?_
      refine zg_aload_n (pc' := 713) zd_Law_law_712 rfl rfl ?_
      refine zg_aload_n (pc' := 714) zd_Law_law_713 rfl rfl ?_
      refine zg_iload_n (pc' := 715) zd_Law_law_714 rfl rfl ?_
      refine zg_iconst (x := (1 : Int32)) (pc' := 716) zd_Law_law_715 (by decide) rfl ?_
      refine zg_iadd (pc' := 717) zd_Law_law_716 rfl ?_
      obtain ⟨g196, h⟩ := gd_some h
      refine zg_sld (pc' := 718) zd_Law_law_717 (gB_ok g196) rfl ?_
      refine zg_aload_n (pc' := 719) zd_Law_law_718 rfl rfl ?_
      refine zg_iload_n (pc' := 720) zd_Law_law_719 rfl rfl ?_
      refine zg_iconst (x := (2 : Int32)) (pc' := 721) zd_Law_law_720 (by decide) rfl ?_
      refine zg_iadd (pc' := 722) zd_Law_law_721 rfl ?_
      obtain ⟨g197, h⟩ := gd_some h
      refine zg_sld (pc' := 723) zd_Law_law_722 (gB_ok g197) rfl ?_
      obtain ⟨g198, h⟩ := gd_some h
      obtain ⟨r201, S199, e200, h⟩ := bq_some h
      refine zg_callV (ci := 9) (As := [.int (X.2 (a3 + (1 : Int32)).toNatClampNeg), .int (X.2 (a3 + (2 : Int32)).toNatClampNeg)]) (rest := []) (pc' := 726) zl_Law_81 zq671 zq672 ⟨_, rfl, rfl⟩ zd_Law_law_723 rfl rfl (Nat.le_of_ble_eq_true rfl) (by omega) (gT_ok g198) (tm_Ls_can (d := 5) (Nat.le_refl _) e200) rfl ?_
      refine zg_st (st' := [.int r201]) rfl ?_
      refine zg_aload_n (pc' := 727) zd_Law_law_726 rfl rfl ?_
      refine zg_aload_n (pc' := 728) zd_Law_law_727 rfl rfl ?_
      refine zg_iload_n (pc' := 729) zd_Law_law_728 rfl rfl ?_
      refine zg_iconst (x := (1 : Int32)) (pc' := 730) zd_Law_law_729 (by decide) rfl ?_
      refine zg_iadd (pc' := 731) zd_Law_law_730 rfl ?_
      refine zg_sld (pc' := 732) zd_Law_law_731 (gB_ok g196) rfl ?_
      refine zg_aload_n (pc' := 733) zd_Law_law_732 rfl rfl ?_
      refine zg_iload_n (pc' := 734) zd_Law_law_733 rfl rfl ?_
      refine zg_iconst (x := (2 : Int32)) (pc' := 735) zd_Law_law_734 (by decide) rfl ?_
      refine zg_iadd (pc' := 736) zd_Law_law_735 rfl ?_
      refine zg_sld (pc' := 737) zd_Law_law_736 (gB_ok g197) rfl ?_
      obtain ⟨g202, h⟩ := gd_some h
      obtain ⟨r205, S203, e204, h⟩ := bq_some h
      refine zg_callV (ci := 10) (As := [.int (X.2 (a3 + (1 : Int32)).toNatClampNeg), .int (X.2 (a3 + (2 : Int32)).toNatClampNeg)]) (rest := [.int r201]) (pc' := 740) zl_Law_84 zq1123 zq1124 ⟨_, rfl, rfl⟩ zd_Law_law_737 rfl rfl (Nat.le_of_ble_eq_true rfl) (by omega) (gT_ok g202) (tm_Mo_can (d := 73) (Nat.le_refl _) e204) rfl ?_
      refine zg_st (st' := [.int r205, .int r201]) rfl ?_
      rcases br_some h with ⟨c206, h⟩ | ⟨c206, h⟩
      · refine zg_icmp_eq (tgt := 1319) (pc' := 743) zd_Law_law_740 (by decide) rfl (fun _ => ?_) (fun q => absurd c206 q)
        refine zg_iinc (y := (a3 + (6 : Int32))) (L' := [some (.ref 3), some (.ref a1), some (.ref a2), some (.int (a3 + (6 : Int32)))]) (pc' := 1322) zd_Law_law_1319 rfl rfl (by decide) rfl rfl ?_
        refine zg_goto (tgt := 18) zd_Law_law_1322 (by decide) ?_
        exact hK18 _ _ _ _ h
      · refine zg_icmp_eq (tgt := 1319) (pc' := 743) zd_Law_law_740 (by decide) rfl (fun q => absurd q c206) (fun _ => ?_)
        refine zg_iconst (x := (0 : Int32)) (pc' := 744) zd_Law_law_743 (by decide) rfl ?_
        obtain ⟨rfl, rfl⟩ := rt_q h
        exact zg_iret zd_Law_law_744 (zrt_z (by decide))
    rcases br_some h with ⟨c207, h⟩ | ⟨c207, h⟩
    · refine zg_tabI (tgt := 745) (17 : Int32) zd_Law_law_33 c207 (by decide) (by decide) rfl (by decide) ?_
      refine zg_aload_n (pc' := 746) zd_Law_law_745 rfl rfl ?_
      refine zg_aload_n (pc' := 747) zd_Law_law_746 rfl rfl ?_
      refine zg_iload_n (pc' := 748) zd_Law_law_747 rfl rfl ?_
      refine zg_iconst (x := (1 : Int32)) (pc' := 749) zd_Law_law_748 (by decide) rfl ?_
      refine zg_iadd (pc' := 750) zd_Law_law_749 rfl ?_
      obtain ⟨g208, h⟩ := gd_some h
      refine zg_sld (pc' := 751) zd_Law_law_750 (gB_ok g208) rfl ?_
      refine zg_aload_n (pc' := 752) zd_Law_law_751 rfl rfl ?_
      refine zg_iload_n (pc' := 753) zd_Law_law_752 rfl rfl ?_
      refine zg_iconst (x := (2 : Int32)) (pc' := 754) zd_Law_law_753 (by decide) rfl ?_
      refine zg_iadd (pc' := 755) zd_Law_law_754 rfl ?_
      obtain ⟨g209, h⟩ := gd_some h
      refine zg_sld (pc' := 756) zd_Law_law_755 (gB_ok g209) rfl ?_
      refine zg_aload_n (pc' := 757) zd_Law_law_756 rfl rfl ?_
      refine zg_iload_n (pc' := 758) zd_Law_law_757 rfl rfl ?_
      refine zg_iconst (x := (3 : Int32)) (pc' := 759) zd_Law_law_758 (by decide) rfl ?_
      refine zg_iadd (pc' := 760) zd_Law_law_759 rfl ?_
      obtain ⟨g210, h⟩ := gd_some h
      refine zg_sld (pc' := 761) zd_Law_law_760 (gB_ok g210) rfl ?_
      obtain ⟨g211, h⟩ := gd_some h
      obtain ⟨r214, S212, e213, h⟩ := bq_some h
      refine zg_callV (ci := 9) (As := [.int (X.2 (a3 + (1 : Int32)).toNatClampNeg), .int (X.2 (a3 + (2 : Int32)).toNatClampNeg), .int (X.2 (a3 + (3 : Int32)).toNatClampNeg)]) (rest := []) (pc' := 764) zl_Law_85 zq675 zq676 ⟨_, rfl, rfl⟩ zd_Law_law_761 rfl rfl (Nat.le_of_ble_eq_true rfl) (by omega) (gT_ok g211) (tm_Ls_odds (d := 6) (Nat.le_refl _) e213) rfl ?_
      refine zg_st (st' := [.long r214]) rfl ?_
      refine zg_aload_n (pc' := 765) zd_Law_law_764 rfl rfl ?_
      refine zg_aload_n (pc' := 766) zd_Law_law_765 rfl rfl ?_
      refine zg_iload_n (pc' := 767) zd_Law_law_766 rfl rfl ?_
      refine zg_iconst (x := (1 : Int32)) (pc' := 768) zd_Law_law_767 (by decide) rfl ?_
      refine zg_iadd (pc' := 769) zd_Law_law_768 rfl ?_
      refine zg_sld (pc' := 770) zd_Law_law_769 (gB_ok g208) rfl ?_
      refine zg_aload_n (pc' := 771) zd_Law_law_770 rfl rfl ?_
      refine zg_iload_n (pc' := 772) zd_Law_law_771 rfl rfl ?_
      refine zg_iconst (x := (2 : Int32)) (pc' := 773) zd_Law_law_772 (by decide) rfl ?_
      refine zg_iadd (pc' := 774) zd_Law_law_773 rfl ?_
      refine zg_sld (pc' := 775) zd_Law_law_774 (gB_ok g209) rfl ?_
      refine zg_aload_n (pc' := 776) zd_Law_law_775 rfl rfl ?_
      refine zg_iload_n (pc' := 777) zd_Law_law_776 rfl rfl ?_
      refine zg_iconst (x := (3 : Int32)) (pc' := 778) zd_Law_law_777 (by decide) rfl ?_
      refine zg_iadd (pc' := 779) zd_Law_law_778 rfl ?_
      refine zg_sld (pc' := 780) zd_Law_law_779 (gB_ok g210) rfl ?_
      obtain ⟨g215, h⟩ := gd_some h
      obtain ⟨r218, S216, e217, h⟩ := bq_some h
      refine zg_callV (ci := 10) (As := [.int (X.2 (a3 + (1 : Int32)).toNatClampNeg), .int (X.2 (a3 + (2 : Int32)).toNatClampNeg), .int (X.2 (a3 + (3 : Int32)).toNatClampNeg)]) (rest := [.long r214]) (pc' := 783) zl_Law_89 zq1127 zq1128 ⟨_, rfl, rfl⟩ zd_Law_law_780 rfl rfl (Nat.le_of_ble_eq_true rfl) (by omega) (gT_ok g215) (tm_Mo_odds (d := 71) (Nat.le_refl _) e217) rfl ?_
      refine zg_st (st' := [.long r218, .long r214]) rfl ?_
      refine zg_lcm (pc' := 784) zd_Law_law_783 rfl ?_
      rcases br_some h with ⟨c219, h⟩ | ⟨c219, h⟩
      · refine zg_if_eq (tgt := 1319) (pc' := 787) zd_Law_law_784 (by decide) rfl (fun _ => ?_) (fun q => absurd c219 q)
        refine zg_iinc (y := (a3 + (6 : Int32))) (L' := [some (.ref 3), some (.ref a1), some (.ref a2), some (.int (a3 + (6 : Int32)))]) (pc' := 1322) zd_Law_law_1319 rfl rfl (by decide) rfl rfl ?_
        refine zg_goto (tgt := 18) zd_Law_law_1322 (by decide) ?_
        exact hK18 _ _ _ _ h
      · refine zg_if_eq (tgt := 1319) (pc' := 787) zd_Law_law_784 (by decide) rfl (fun q => absurd q c219) (fun _ => ?_)
        refine zg_iconst (x := (0 : Int32)) (pc' := 788) zd_Law_law_787 (by decide) rfl ?_
        obtain ⟨rfl, rfl⟩ := rt_q h
        exact zg_iret zd_Law_law_788 (zrt_z (by decide))
    rcases br_some h with ⟨c220, h⟩ | ⟨c220, h⟩
    · refine zg_tabI (tgt := 789) (18 : Int32) zd_Law_law_33 c220 (by decide) (by decide) rfl (by decide) ?_
      refine zg_aload_n (pc' := 790) zd_Law_law_789 rfl rfl ?_
      refine zg_aload_n (pc' := 791) zd_Law_law_790 rfl rfl ?_
      refine zg_iload_n (pc' := 792) zd_Law_law_791 rfl rfl ?_
      refine zg_iconst (x := (1 : Int32)) (pc' := 793) zd_Law_law_792 (by decide) rfl ?_
      refine zg_iadd (pc' := 794) zd_Law_law_793 rfl ?_
      obtain ⟨g221, h⟩ := gd_some h
      refine zg_sld (pc' := 795) zd_Law_law_794 (gB_ok g221) rfl ?_
      refine zg_aload_n (pc' := 796) zd_Law_law_795 rfl rfl ?_
      refine zg_iload_n (pc' := 797) zd_Law_law_796 rfl rfl ?_
      refine zg_iconst (x := (2 : Int32)) (pc' := 798) zd_Law_law_797 (by decide) rfl ?_
      refine zg_iadd (pc' := 799) zd_Law_law_798 rfl ?_
      obtain ⟨g222, h⟩ := gd_some h
      refine zg_sld (pc' := 800) zd_Law_law_799 (gB_ok g222) rfl ?_
      obtain ⟨g223, h⟩ := gd_some h
      obtain ⟨r226, S224, e225, h⟩ := bq_some h
      refine zg_callV (ci := 9) (As := [.int (X.2 (a3 + (1 : Int32)).toNatClampNeg), .int (X.2 (a3 + (2 : Int32)).toNatClampNeg)]) (rest := []) (pc' := 803) zl_Law_90 zq683 zq684 ⟨_, rfl, rfl⟩ zd_Law_law_800 rfl rfl (Nat.le_of_ble_eq_true rfl) (by omega) (gT_ok g223) (tm_Ls_mean (d := 8) (Nat.le_refl _) e225) rfl ?_
      refine zg_st (st' := [.long r226]) rfl ?_
      refine zg_aload_n (pc' := 804) zd_Law_law_803 rfl rfl ?_
      refine zg_aload_n (pc' := 805) zd_Law_law_804 rfl rfl ?_
      refine zg_iload_n (pc' := 806) zd_Law_law_805 rfl rfl ?_
      refine zg_iconst (x := (1 : Int32)) (pc' := 807) zd_Law_law_806 (by decide) rfl ?_
      refine zg_iadd (pc' := 808) zd_Law_law_807 rfl ?_
      refine zg_sld (pc' := 809) zd_Law_law_808 (gB_ok g221) rfl ?_
      refine zg_aload_n (pc' := 810) zd_Law_law_809 rfl rfl ?_
      refine zg_iload_n (pc' := 811) zd_Law_law_810 rfl rfl ?_
      refine zg_iconst (x := (2 : Int32)) (pc' := 812) zd_Law_law_811 (by decide) rfl ?_
      refine zg_iadd (pc' := 813) zd_Law_law_812 rfl ?_
      refine zg_sld (pc' := 814) zd_Law_law_813 (gB_ok g222) rfl ?_
      obtain ⟨g227, h⟩ := gd_some h
      obtain ⟨r230, S228, e229, h⟩ := bq_some h
      refine zg_callV (ci := 10) (As := [.int (X.2 (a3 + (1 : Int32)).toNatClampNeg), .int (X.2 (a3 + (2 : Int32)).toNatClampNeg)]) (rest := [.long r226]) (pc' := 817) zl_Law_94 zq1135 zq1136 ⟨_, rfl, rfl⟩ zd_Law_law_814 rfl rfl (Nat.le_of_ble_eq_true rfl) (by omega) (gT_ok g227) (tm_Mo_mean (d := 73) (Nat.le_refl _) e229) rfl ?_
      refine zg_st (st' := [.long r230, .long r226]) rfl ?_
      refine zg_lcm (pc' := 818) zd_Law_law_817 rfl ?_
      rcases br_some h with ⟨c231, h⟩ | ⟨c231, h⟩
      · refine zg_if_eq (tgt := 1319) (pc' := 821) zd_Law_law_818 (by decide) rfl (fun _ => ?_) (fun q => absurd c231 q)
        refine zg_iinc (y := (a3 + (6 : Int32))) (L' := [some (.ref 3), some (.ref a1), some (.ref a2), some (.int (a3 + (6 : Int32)))]) (pc' := 1322) zd_Law_law_1319 rfl rfl (by decide) rfl rfl ?_
        refine zg_goto (tgt := 18) zd_Law_law_1322 (by decide) ?_
        exact hK18 _ _ _ _ h
      · refine zg_if_eq (tgt := 1319) (pc' := 821) zd_Law_law_818 (by decide) rfl (fun q => absurd q c231) (fun _ => ?_)
        refine zg_iconst (x := (0 : Int32)) (pc' := 822) zd_Law_law_821 (by decide) rfl ?_
        obtain ⟨rfl, rfl⟩ := rt_q h
        exact zg_iret zd_Law_law_822 (zrt_z (by decide))
    rcases br_some h with ⟨c232, h⟩ | ⟨c232, h⟩
    · refine zg_tabI (tgt := 823) (19 : Int32) zd_Law_law_33 c232 (by decide) (by decide) rfl (by decide) ?_
      refine zg_aload_n (pc' := 824) zd_Law_law_823 rfl rfl ?_
      refine zg_aload_n (pc' := 825) zd_Law_law_824 rfl rfl ?_
      refine zg_iload_n (pc' := 826) zd_Law_law_825 rfl rfl ?_
      refine zg_iconst (x := (1 : Int32)) (pc' := 827) zd_Law_law_826 (by decide) rfl ?_
      refine zg_iadd (pc' := 828) zd_Law_law_827 rfl ?_
      obtain ⟨g233, h⟩ := gd_some h
      refine zg_sld (pc' := 829) zd_Law_law_828 (gB_ok g233) rfl ?_
      refine zg_aload_n (pc' := 830) zd_Law_law_829 rfl rfl ?_
      refine zg_iload_n (pc' := 831) zd_Law_law_830 rfl rfl ?_
      refine zg_iconst (x := (2 : Int32)) (pc' := 832) zd_Law_law_831 (by decide) rfl ?_
      refine zg_iadd (pc' := 833) zd_Law_law_832 rfl ?_
      obtain ⟨g234, h⟩ := gd_some h
      refine zg_sld (pc' := 834) zd_Law_law_833 (gB_ok g234) rfl ?_
      obtain ⟨g235, h⟩ := gd_some h
      obtain ⟨r238, S236, e237, h⟩ := bq_some h
      refine zg_callV (ci := 9) (As := [.int (X.2 (a3 + (1 : Int32)).toNatClampNeg), .int (X.2 (a3 + (2 : Int32)).toNatClampNeg)]) (rest := []) (pc' := 837) zl_Law_95 zq691 zq692 ⟨_, rfl, rfl⟩ zd_Law_law_834 rfl rfl (Nat.le_of_ble_eq_true rfl) (by omega) (gT_ok g235) (tm_Ls_plan (d := 3) (Nat.le_refl _) e237) rfl ?_
      refine zg_st (st' := [.int r238]) rfl ?_
      refine zg_aload_n (pc' := 838) zd_Law_law_837 rfl rfl ?_
      refine zg_aload_n (pc' := 839) zd_Law_law_838 rfl rfl ?_
      refine zg_iload_n (pc' := 840) zd_Law_law_839 rfl rfl ?_
      refine zg_iconst (x := (1 : Int32)) (pc' := 841) zd_Law_law_840 (by decide) rfl ?_
      refine zg_iadd (pc' := 842) zd_Law_law_841 rfl ?_
      refine zg_sld (pc' := 843) zd_Law_law_842 (gB_ok g233) rfl ?_
      refine zg_aload_n (pc' := 844) zd_Law_law_843 rfl rfl ?_
      refine zg_iload_n (pc' := 845) zd_Law_law_844 rfl rfl ?_
      refine zg_iconst (x := (2 : Int32)) (pc' := 846) zd_Law_law_845 (by decide) rfl ?_
      refine zg_iadd (pc' := 847) zd_Law_law_846 rfl ?_
      refine zg_sld (pc' := 848) zd_Law_law_847 (gB_ok g234) rfl ?_
      obtain ⟨g239, h⟩ := gd_some h
      obtain ⟨r242, S240, e241, h⟩ := bq_some h
      refine zg_callV (ci := 10) (As := [.int (X.2 (a3 + (1 : Int32)).toNatClampNeg), .int (X.2 (a3 + (2 : Int32)).toNatClampNeg)]) (rest := [.int r238]) (pc' := 851) zl_Law_98 zq1143 zq1144 ⟨_, rfl, rfl⟩ zd_Law_law_848 rfl rfl (Nat.le_of_ble_eq_true rfl) (by omega) (gT_ok g239) (tm_Mo_plan (d := 4) (Nat.le_refl _) e241) rfl ?_
      refine zg_st (st' := [.int r242, .int r238]) rfl ?_
      rcases br_some h with ⟨c243, h⟩ | ⟨c243, h⟩
      · refine zg_icmp_eq (tgt := 1319) (pc' := 854) zd_Law_law_851 (by decide) rfl (fun _ => ?_) (fun q => absurd c243 q)
        refine zg_iinc (y := (a3 + (6 : Int32))) (L' := [some (.ref 3), some (.ref a1), some (.ref a2), some (.int (a3 + (6 : Int32)))]) (pc' := 1322) zd_Law_law_1319 rfl rfl (by decide) rfl rfl ?_
        refine zg_goto (tgt := 18) zd_Law_law_1322 (by decide) ?_
        exact hK18 _ _ _ _ h
      · refine zg_icmp_eq (tgt := 1319) (pc' := 854) zd_Law_law_851 (by decide) rfl (fun q => absurd q c243) (fun _ => ?_)
        refine zg_iconst (x := (0 : Int32)) (pc' := 855) zd_Law_law_854 (by decide) rfl ?_
        obtain ⟨rfl, rfl⟩ := rt_q h
        exact zg_iret zd_Law_law_855 (zrt_z (by decide))
    rcases br_some h with ⟨c244, h⟩ | ⟨c244, h⟩
    · refine zg_tabI (tgt := 856) (20 : Int32) zd_Law_law_33 c244 (by decide) (by decide) rfl (by decide) ?_
      refine zg_aload_n (pc' := 857) zd_Law_law_856 rfl rfl ?_
      refine zg_aload_n (pc' := 858) zd_Law_law_857 rfl rfl ?_
      refine zg_iload_n (pc' := 859) zd_Law_law_858 rfl rfl ?_
      refine zg_iconst (x := (1 : Int32)) (pc' := 860) zd_Law_law_859 (by decide) rfl ?_
      refine zg_iadd (pc' := 861) zd_Law_law_860 rfl ?_
      obtain ⟨g245, h⟩ := gd_some h
      refine zg_sld (pc' := 862) zd_Law_law_861 (gB_ok g245) rfl ?_
      obtain ⟨g246, h⟩ := gd_some h
      obtain ⟨r249, S247, e248, h⟩ := bq_some h
      refine zg_callV (ci := 9) (As := [.int (X.2 (a3 + (1 : Int32)).toNatClampNeg)]) (rest := []) (pc' := 865) zl_Law_99 zq695 zq696 ⟨_, rfl, rfl⟩ zd_Law_law_862 rfl rfl (Nat.le_of_ble_eq_true rfl) (by omega) (gT_ok g246) (tm_Ls_ends (d := 8) (Nat.le_refl _) e248) rfl ?_
      refine zg_st (st' := [.int r249]) rfl ?_
      refine zg_aload_n (pc' := 866) zd_Law_law_865 rfl rfl ?_
      refine zg_aload_n (pc' := 867) zd_Law_law_866 rfl rfl ?_
      refine zg_iload_n (pc' := 868) zd_Law_law_867 rfl rfl ?_
      refine zg_iconst (x := (1 : Int32)) (pc' := 869) zd_Law_law_868 (by decide) rfl ?_
      refine zg_iadd (pc' := 870) zd_Law_law_869 rfl ?_
      refine zg_sld (pc' := 871) zd_Law_law_870 (gB_ok g245) rfl ?_
      obtain ⟨g250, h⟩ := gd_some h
      obtain ⟨r253, S251, e252, h⟩ := bq_some h
      refine zg_callV (ci := 10) (As := [.int (X.2 (a3 + (1 : Int32)).toNatClampNeg)]) (rest := [.int r249]) (pc' := 874) zl_Law_102 zq1147 zq1148 ⟨_, rfl, rfl⟩ zd_Law_law_871 rfl rfl (Nat.le_of_ble_eq_true rfl) (by omega) (gT_ok g250) (tm_Mo_ends (d := 73) (Nat.le_refl _) e252) rfl ?_
      refine zg_st (st' := [.int r253, .int r249]) rfl ?_
      rcases br_some h with ⟨c254, h⟩ | ⟨c254, h⟩
      · refine zg_icmp_eq (tgt := 1319) (pc' := 877) zd_Law_law_874 (by decide) rfl (fun _ => ?_) (fun q => absurd c254 q)
        refine zg_iinc (y := (a3 + (6 : Int32))) (L' := [some (.ref 3), some (.ref a1), some (.ref a2), some (.int (a3 + (6 : Int32)))]) (pc' := 1322) zd_Law_law_1319 rfl rfl (by decide) rfl rfl ?_
        refine zg_goto (tgt := 18) zd_Law_law_1322 (by decide) ?_
        exact hK18 _ _ _ _ h
      · refine zg_icmp_eq (tgt := 1319) (pc' := 877) zd_Law_law_874 (by decide) rfl (fun q => absurd q c254) (fun _ => ?_)
        refine zg_iconst (x := (0 : Int32)) (pc' := 878) zd_Law_law_877 (by decide) rfl ?_
        obtain ⟨rfl, rfl⟩ := rt_q h
        exact zg_iret zd_Law_law_878 (zrt_z (by decide))
    rcases br_some h with ⟨c255, h⟩ | ⟨c255, h⟩
    · refine zg_tabI (tgt := 879) (21 : Int32) zd_Law_law_33 c255 (by decide) (by decide) rfl (by decide) ?_
      refine zg_aload_n (pc' := 880) zd_Law_law_879 rfl rfl ?_
      refine zg_aload_n (pc' := 881) zd_Law_law_880 rfl rfl ?_
      refine zg_iload_n (pc' := 882) zd_Law_law_881 rfl rfl ?_
      refine zg_iconst (x := (1 : Int32)) (pc' := 883) zd_Law_law_882 (by decide) rfl ?_
      refine zg_iadd (pc' := 884) zd_Law_law_883 rfl ?_
      obtain ⟨g256, h⟩ := gd_some h
      refine zg_sld (pc' := 885) zd_Law_law_884 (gB_ok g256) rfl ?_
      refine zg_aload_n (pc' := 886) zd_Law_law_885 rfl rfl ?_
      refine zg_iload_n (pc' := 887) zd_Law_law_886 rfl rfl ?_
      refine zg_iconst (x := (2 : Int32)) (pc' := 888) zd_Law_law_887 (by decide) rfl ?_
      refine zg_iadd (pc' := 889) zd_Law_law_888 rfl ?_
      obtain ⟨g257, h⟩ := gd_some h
      refine zg_sld (pc' := 890) zd_Law_law_889 (gB_ok g257) rfl ?_
      obtain ⟨g258, h⟩ := gd_some h
      obtain ⟨r261, S259, e260, h⟩ := bq_some h
      refine zg_callV (ci := 9) (As := [.int (X.2 (a3 + (1 : Int32)).toNatClampNeg), .int (X.2 (a3 + (2 : Int32)).toNatClampNeg)]) (rest := []) (pc' := 893) zl_Law_103 zq705 zq706 ⟨_, rfl, rfl⟩ zd_Law_law_890 rfl rfl (Nat.le_of_ble_eq_true rfl) (by omega) (gT_ok g258) (tm_Ls_book (d := 3) (Nat.le_refl _) e260) rfl ?_
      refine zg_st (st' := [.int r261]) rfl ?_
      refine zg_aload_n (pc' := 894) zd_Law_law_893 rfl rfl ?_
      refine zg_aload_n (pc' := 895) zd_Law_law_894 rfl rfl ?_
      refine zg_iload_n (pc' := 896) zd_Law_law_895 rfl rfl ?_
      refine zg_iconst (x := (1 : Int32)) (pc' := 897) zd_Law_law_896 (by decide) rfl ?_
      refine zg_iadd (pc' := 898) zd_Law_law_897 rfl ?_
      refine zg_sld (pc' := 899) zd_Law_law_898 (gB_ok g256) rfl ?_
      refine zg_aload_n (pc' := 900) zd_Law_law_899 rfl rfl ?_
      refine zg_iload_n (pc' := 901) zd_Law_law_900 rfl rfl ?_
      refine zg_iconst (x := (2 : Int32)) (pc' := 902) zd_Law_law_901 (by decide) rfl ?_
      refine zg_iadd (pc' := 903) zd_Law_law_902 rfl ?_
      refine zg_sld (pc' := 904) zd_Law_law_903 (gB_ok g257) rfl ?_
      obtain ⟨g262, h⟩ := gd_some h
      obtain ⟨r265, S263, e264, h⟩ := bq_some h
      refine zg_callV (ci := 10) (As := [.int (X.2 (a3 + (1 : Int32)).toNatClampNeg), .int (X.2 (a3 + (2 : Int32)).toNatClampNeg)]) (rest := [.int r261]) (pc' := 907) zl_Law_106 zq1151 zq1152 ⟨_, rfl, rfl⟩ zd_Law_law_904 rfl rfl (Nat.le_of_ble_eq_true rfl) (by omega) (gT_ok g262) (tm_Mo_book (d := 4) (Nat.le_refl _) e264) rfl ?_
      refine zg_st (st' := [.int r265, .int r261]) rfl ?_
      rcases br_some h with ⟨c266, h⟩ | ⟨c266, h⟩
      · refine zg_icmp_eq (tgt := 1319) (pc' := 910) zd_Law_law_907 (by decide) rfl (fun _ => ?_) (fun q => absurd c266 q)
        refine zg_iinc (y := (a3 + (6 : Int32))) (L' := [some (.ref 3), some (.ref a1), some (.ref a2), some (.int (a3 + (6 : Int32)))]) (pc' := 1322) zd_Law_law_1319 rfl rfl (by decide) rfl rfl ?_
        refine zg_goto (tgt := 18) zd_Law_law_1322 (by decide) ?_
        exact hK18 _ _ _ _ h
      · refine zg_icmp_eq (tgt := 1319) (pc' := 910) zd_Law_law_907 (by decide) rfl (fun q => absurd q c266) (fun _ => ?_)
        refine zg_iconst (x := (0 : Int32)) (pc' := 911) zd_Law_law_910 (by decide) rfl ?_
        obtain ⟨rfl, rfl⟩ := rt_q h
        exact zg_iret zd_Law_law_911 (zrt_z (by decide))
    rcases br_some h with ⟨c267, h⟩ | ⟨c267, h⟩
    · refine zg_tabI (tgt := 912) (22 : Int32) zd_Law_law_33 c267 (by decide) (by decide) rfl (by decide) ?_
      refine zg_aload_n (pc' := 913) zd_Law_law_912 rfl rfl ?_
      obtain ⟨g268, h⟩ := gd_some h
      obtain ⟨r271, S269, e270, h⟩ := bq_some h
      refine zg_callV (ci := 9) (As := []) (rest := []) (pc' := 916) zl_Law_107 zq709 zq710 ⟨_, rfl, rfl⟩ zd_Law_law_913 rfl rfl (Nat.le_of_ble_eq_true rfl) (by omega) (gT_ok g268) (tm_Ls_looked (d := 3) (Nat.le_refl _) e270) rfl ?_
      refine zg_st (st' := [.int r271]) rfl ?_
      refine zg_aload_n (pc' := 917) zd_Law_law_916 rfl rfl ?_
      obtain ⟨g272, h⟩ := gd_some h
      obtain ⟨r275, S273, e274, h⟩ := bq_some h
      refine zg_callV (ci := 10) (As := []) (rest := [.int r271]) (pc' := 920) zl_Law_110 zq1155 zq1156 ⟨_, rfl, rfl⟩ zd_Law_law_917 rfl rfl (Nat.le_of_ble_eq_true rfl) (by omega) (gT_ok g272) (tm_Mo_looked (d := 3) (Nat.le_refl _) e274) rfl ?_
      refine zg_st (st' := [.int r275, .int r271]) rfl ?_
      rcases br_some h with ⟨c276, h⟩ | ⟨c276, h⟩
      · refine zg_icmp_eq (tgt := 1319) (pc' := 923) zd_Law_law_920 (by decide) rfl (fun _ => ?_) (fun q => absurd c276 q)
        refine zg_iinc (y := (a3 + (6 : Int32))) (L' := [some (.ref 3), some (.ref a1), some (.ref a2), some (.int (a3 + (6 : Int32)))]) (pc' := 1322) zd_Law_law_1319 rfl rfl (by decide) rfl rfl ?_
        refine zg_goto (tgt := 18) zd_Law_law_1322 (by decide) ?_
        exact hK18 _ _ _ _ h
      · refine zg_icmp_eq (tgt := 1319) (pc' := 923) zd_Law_law_920 (by decide) rfl (fun q => absurd q c276) (fun _ => ?_)
        refine zg_iconst (x := (0 : Int32)) (pc' := 924) zd_Law_law_923 (by decide) rfl ?_
        obtain ⟨rfl, rfl⟩ := rt_q h
        exact zg_iret zd_Law_law_924 (zrt_z (by decide))
    rcases br_some h with ⟨c277, h⟩ | ⟨c277, h⟩
    · refine zg_tabI (tgt := 925) (23 : Int32) zd_Law_law_33 c277 (by decide) (by decide) rfl (by decide) ?_
      refine zg_aload_n (pc' := 926) zd_Law_law_925 rfl rfl ?_
      refine zg_aload_n (pc' := 927) zd_Law_law_926 rfl rfl ?_
      refine zg_iload_n (pc' := 928) zd_Law_law_927 rfl rfl ?_
      refine zg_iconst (x := (1 : Int32)) (pc' := 929) zd_Law_law_928 (by decide) rfl ?_
      refine zg_iadd (pc' := 930) zd_Law_law_929 rfl ?_
      obtain ⟨g278, h⟩ := gd_some h
      refine zg_sld (pc' := 931) zd_Law_law_930 (gB_ok g278) rfl ?_
      refine zg_aload_n (pc' := 932) zd_Law_law_931 rfl rfl ?_
      refine zg_iload_n (pc' := 933) zd_Law_law_932 rfl rfl ?_
      refine zg_iconst (x := (2 : Int32)) (pc' := 934) zd_Law_law_933 (by decide) rfl ?_
      refine zg_iadd (pc' := 935) zd_Law_law_934 rfl ?_
      obtain ⟨g279, h⟩ := gd_some h
      refine zg_sld (pc' := 936) zd_Law_law_935 (gB_ok g279) rfl ?_
      obtain ⟨g280, h⟩ := gd_some h
      obtain ⟨r283, S281, e282, h⟩ := bq_some h
      refine zg_callV (ci := 9) (As := [.int (X.2 (a3 + (1 : Int32)).toNatClampNeg), .int (X.2 (a3 + (2 : Int32)).toNatClampNeg)]) (rest := []) (pc' := 939) zl_Law_111 zq713 zq714 ⟨_, rfl, rfl⟩ zd_Law_law_936 rfl rfl (Nat.le_of_ble_eq_true rfl) (by omega) (gT_ok g280) (tm_Ls_judge (d := 3) (Nat.le_refl _) e282) rfl ?_
      refine zg_st (st' := [.int r283]) rfl ?_
      refine zg_aload_n (pc' := 940) zd_Law_law_939 rfl rfl ?_
      refine zg_aload_n (pc' := 941) zd_Law_law_940 rfl rfl ?_
      refine zg_iload_n (pc' := 942) zd_Law_law_941 rfl rfl ?_
      refine zg_iconst (x := (1 : Int32)) (pc' := 943) zd_Law_law_942 (by decide) rfl ?_
      refine zg_iadd (pc' := 944) zd_Law_law_943 rfl ?_
      refine zg_sld (pc' := 945) zd_Law_law_944 (gB_ok g278) rfl ?_
      refine zg_aload_n (pc' := 946) zd_Law_law_945 rfl rfl ?_
      refine zg_iload_n (pc' := 947) zd_Law_law_946 rfl rfl ?_
      refine zg_iconst (x := (2 : Int32)) (pc' := 948) zd_Law_law_947 (by decide) rfl ?_
      refine zg_iadd (pc' := 949) zd_Law_law_948 rfl ?_
      refine zg_sld (pc' := 950) zd_Law_law_949 (gB_ok g279) rfl ?_
      obtain ⟨g284, h⟩ := gd_some h
      obtain ⟨r287, S285, e286, h⟩ := bq_some h
      refine zg_callV (ci := 10) (As := [.int (X.2 (a3 + (1 : Int32)).toNatClampNeg), .int (X.2 (a3 + (2 : Int32)).toNatClampNeg)]) (rest := [.int r283]) (pc' := 953) zl_Law_114 zq1206 zq1207 ⟨_, rfl, rfl⟩ zd_Law_law_950 rfl rfl (Nat.le_of_ble_eq_true rfl) (by omega) (gT_ok g284) (tm_Mo_judge (d := 4) (Nat.le_refl _) e286) rfl ?_
      refine zg_st (st' := [.int r287, .int r283]) rfl ?_
      rcases br_some h with ⟨c288, h⟩ | ⟨c288, h⟩
      · refine zg_icmp_eq (tgt := 1319) (pc' := 956) zd_Law_law_953 (by decide) rfl (fun _ => ?_) (fun q => absurd c288 q)
        refine zg_iinc (y := (a3 + (6 : Int32))) (L' := [some (.ref 3), some (.ref a1), some (.ref a2), some (.int (a3 + (6 : Int32)))]) (pc' := 1322) zd_Law_law_1319 rfl rfl (by decide) rfl rfl ?_
        refine zg_goto (tgt := 18) zd_Law_law_1322 (by decide) ?_
        exact hK18 _ _ _ _ h
      · refine zg_icmp_eq (tgt := 1319) (pc' := 956) zd_Law_law_953 (by decide) rfl (fun q => absurd q c288) (fun _ => ?_)
        refine zg_iconst (x := (0 : Int32)) (pc' := 957) zd_Law_law_956 (by decide) rfl ?_
        obtain ⟨rfl, rfl⟩ := rt_q h
        exact zg_iret zd_Law_law_957 (zrt_z (by decide))
    rcases br_some h with ⟨c289, h⟩ | ⟨c289, h⟩
    · refine zg_tabI (tgt := 958) (24 : Int32) zd_Law_law_33 c289 (by decide) (by decide) rfl (by decide) ?_
      refine zg_aload_n (pc' := 959) zd_Law_law_958 rfl rfl ?_
      obtain ⟨g290, h⟩ := gd_some h
      obtain ⟨r293, S291, e292, h⟩ := bq_some h
      refine zg_callV (ci := 9) (As := []) (rest := []) (pc' := 962) zl_Law_115 zq720 zq721 ⟨_, rfl, rfl⟩ zd_Law_law_959 rfl rfl (Nat.le_of_ble_eq_true rfl) (by omega) (gT_ok g290) (tm_Ls_image (d := 5) (Nat.le_refl _) e292) rfl ?_
      refine zg_st (st' := [.int r293]) rfl ?_
      refine zg_aload_n (pc' := 963) zd_Law_law_962 rfl rfl ?_
      obtain ⟨g294, h⟩ := gd_some h
      obtain ⟨r297, S295, e296, h⟩ := bq_some h
      refine zg_callV (ci := 10) (As := []) (rest := [.int r293]) (pc' := 966) zl_Law_118 zq895 zq896 ⟨_, rfl, rfl⟩ zd_Law_law_963 rfl rfl (Nat.le_of_ble_eq_true rfl) (by omega) (gT_ok g294) (tm_Mo_image (d := 3) (Nat.le_refl _) e296) rfl ?_
      refine zg_st (st' := [.int r297, .int r293]) rfl ?_
      rcases br_some h with ⟨c298, h⟩ | ⟨c298, h⟩
      · refine zg_icmp_eq (tgt := 1319) (pc' := 969) zd_Law_law_966 (by decide) rfl (fun _ => ?_) (fun q => absurd c298 q)
        refine zg_iinc (y := (a3 + (6 : Int32))) (L' := [some (.ref 3), some (.ref a1), some (.ref a2), some (.int (a3 + (6 : Int32)))]) (pc' := 1322) zd_Law_law_1319 rfl rfl (by decide) rfl rfl ?_
        refine zg_goto (tgt := 18) zd_Law_law_1322 (by decide) ?_
        exact hK18 _ _ _ _ h
      · refine zg_icmp_eq (tgt := 1319) (pc' := 969) zd_Law_law_966 (by decide) rfl (fun q => absurd q c298) (fun _ => ?_)
        refine zg_iconst (x := (0 : Int32)) (pc' := 970) zd_Law_law_969 (by decide) rfl ?_
        obtain ⟨rfl, rfl⟩ := rt_q h
        exact zg_iret zd_Law_law_970 (zrt_z (by decide))
    rcases br_some h with ⟨c299, h⟩ | ⟨c299, h⟩
    · refine zg_tabI (tgt := 971) (25 : Int32) zd_Law_law_33 c299 (by decide) (by decide) rfl (by decide) ?_
      refine zg_aload_n (pc' := 972) zd_Law_law_971 rfl rfl ?_
      obtain ⟨g300, h⟩ := gd_some h
      obtain ⟨r303, S301, e302, h⟩ := bq_some h
      refine zg_callV (ci := 9) (As := []) (rest := []) (pc' := 975) zl_Law_119 zq724 zq725 ⟨_, rfl, rfl⟩ zd_Law_law_972 rfl rfl (Nat.le_of_ble_eq_true rfl) (by omega) (gT_ok g300) (tm_Ls_undo (d := 5) (Nat.le_refl _) e302) rfl ?_
      refine zg_st (st' := [.int r303]) rfl ?_
      refine zg_aload_n (pc' := 976) zd_Law_law_975 rfl rfl ?_
      obtain ⟨g304, h⟩ := gd_some h
      obtain ⟨r307, S305, e306, h⟩ := bq_some h
      refine zg_callV (ci := 10) (As := []) (rest := [.int r303]) (pc' := 979) zl_Law_122 zq902 zq903 ⟨_, rfl, rfl⟩ zd_Law_law_976 rfl rfl (Nat.le_of_ble_eq_true rfl) (by omega) (gT_ok g304) (tm_Mo_undo (d := 3) (Nat.le_refl _) e306) rfl ?_
      refine zg_st (st' := [.int r307, .int r303]) rfl ?_
      rcases br_some h with ⟨c308, h⟩ | ⟨c308, h⟩
      · refine zg_icmp_eq (tgt := 1319) (pc' := 982) zd_Law_law_979 (by decide) rfl (fun _ => ?_) (fun q => absurd c308 q)
        refine zg_iinc (y := (a3 + (6 : Int32))) (L' := [some (.ref 3), some (.ref a1), some (.ref a2), some (.int (a3 + (6 : Int32)))]) (pc' := 1322) zd_Law_law_1319 rfl rfl (by decide) rfl rfl ?_
        refine zg_goto (tgt := 18) zd_Law_law_1322 (by decide) ?_
        exact hK18 _ _ _ _ h
      · refine zg_icmp_eq (tgt := 1319) (pc' := 982) zd_Law_law_979 (by decide) rfl (fun q => absurd q c308) (fun _ => ?_)
        refine zg_iconst (x := (0 : Int32)) (pc' := 983) zd_Law_law_982 (by decide) rfl ?_
        obtain ⟨rfl, rfl⟩ := rt_q h
        exact zg_iret zd_Law_law_983 (zrt_z (by decide))
    rcases br_some h with ⟨c309, h⟩ | ⟨c309, h⟩
    · refine zg_tabI (tgt := 984) (26 : Int32) zd_Law_law_33 c309 (by decide) (by decide) rfl (by decide) ?_
      refine zg_aload_n (pc' := 985) zd_Law_law_984 rfl rfl ?_
      refine zg_aload_n (pc' := 986) zd_Law_law_985 rfl rfl ?_
      refine zg_iload_n (pc' := 987) zd_Law_law_986 rfl rfl ?_
      refine zg_iconst (x := (1 : Int32)) (pc' := 988) zd_Law_law_987 (by decide) rfl ?_
      refine zg_iadd (pc' := 989) zd_Law_law_988 rfl ?_
      obtain ⟨g310, h⟩ := gd_some h
      refine zg_sld (pc' := 990) zd_Law_law_989 (gB_ok g310) rfl ?_
      refine zg_aload_n (pc' := 991) zd_Law_law_990 rfl rfl ?_
      refine zg_iload_n (pc' := 992) zd_Law_law_991 rfl rfl ?_
      refine zg_iconst (x := (2 : Int32)) (pc' := 993) zd_Law_law_992 (by decide) rfl ?_
      refine zg_iadd (pc' := 994) zd_Law_law_993 rfl ?_
      obtain ⟨g311, h⟩ := gd_some h
      refine zg_sld (pc' := 995) zd_Law_law_994 (gB_ok g311) rfl ?_
      refine zg_aload_n (pc' := 996) zd_Law_law_995 rfl rfl ?_
      refine zg_iload_n (pc' := 997) zd_Law_law_996 rfl rfl ?_
      refine zg_iconst (x := (3 : Int32)) (pc' := 998) zd_Law_law_997 (by decide) rfl ?_
      refine zg_iadd (pc' := 999) zd_Law_law_998 rfl ?_
      obtain ⟨g312, h⟩ := gd_some h
      refine zg_sld (pc' := 1000) zd_Law_law_999 (gB_ok g312) rfl ?_
      obtain ⟨g313, h⟩ := gd_some h
      obtain ⟨r316, S314, e315, h⟩ := bq_some h
      refine zg_callV (ci := 9) (As := [.int (X.2 (a3 + (1 : Int32)).toNatClampNeg), .int (X.2 (a3 + (2 : Int32)).toNatClampNeg), .int (X.2 (a3 + (3 : Int32)).toNatClampNeg)]) (rest := []) (pc' := 1003) zl_Law_123 zq728 zq729 ⟨_, rfl, rfl⟩ zd_Law_law_1000 rfl rfl (Nat.le_of_ble_eq_true rfl) (by omega) (gT_ok g313) (tm_Ls_act (d := 65) (Nat.le_refl _) e315) rfl ?_
      refine zg_st (st' := [.int r316]) rfl ?_
      refine zg_aload_n (pc' := 1004) zd_Law_law_1003 rfl rfl ?_
      refine zg_aload_n (pc' := 1005) zd_Law_law_1004 rfl rfl ?_
      refine zg_iload_n (pc' := 1006) zd_Law_law_1005 rfl rfl ?_
      refine zg_iconst (x := (1 : Int32)) (pc' := 1007) zd_Law_law_1006 (by decide) rfl ?_
      refine zg_iadd (pc' := 1008) zd_Law_law_1007 rfl ?_
      refine zg_sld (pc' := 1009) zd_Law_law_1008 (gB_ok g310) rfl ?_
      refine zg_aload_n (pc' := 1010) zd_Law_law_1009 rfl rfl ?_
      refine zg_iload_n (pc' := 1011) zd_Law_law_1010 rfl rfl ?_
      refine zg_iconst (x := (2 : Int32)) (pc' := 1012) zd_Law_law_1011 (by decide) rfl ?_
      refine zg_iadd (pc' := 1013) zd_Law_law_1012 rfl ?_
      refine zg_sld (pc' := 1014) zd_Law_law_1013 (gB_ok g311) rfl ?_
      refine zg_aload_n (pc' := 1015) zd_Law_law_1014 rfl rfl ?_
      refine zg_iload_n (pc' := 1016) zd_Law_law_1015 rfl rfl ?_
      refine zg_iconst (x := (3 : Int32)) (pc' := 1017) zd_Law_law_1016 (by decide) rfl ?_
      refine zg_iadd (pc' := 1018) zd_Law_law_1017 rfl ?_
      refine zg_sld (pc' := 1019) zd_Law_law_1018 (gB_ok g312) rfl ?_
      obtain ⟨g317, h⟩ := gd_some h
      obtain ⟨r320, S318, e319, h⟩ := bq_some h
      refine zg_callV (ci := 10) (As := [.int (X.2 (a3 + (1 : Int32)).toNatClampNeg), .int (X.2 (a3 + (2 : Int32)).toNatClampNeg), .int (X.2 (a3 + (3 : Int32)).toNatClampNeg)]) (rest := [.int r316]) (pc' := 1022) zl_Law_126 zq1159 zq1160 ⟨_, rfl, rfl⟩ zd_Law_law_1019 rfl rfl (Nat.le_of_ble_eq_true rfl) (by omega) (gT_ok g317) (tm_Mo_act (d := 64) (Nat.le_refl _) e319) rfl ?_
      refine zg_st (st' := [.int r320, .int r316]) rfl ?_
      rcases br_some h with ⟨c321, h⟩ | ⟨c321, h⟩
      · refine zg_icmp_eq (tgt := 1319) (pc' := 1025) zd_Law_law_1022 (by decide) rfl (fun _ => ?_) (fun q => absurd c321 q)
        refine zg_iinc (y := (a3 + (6 : Int32))) (L' := [some (.ref 3), some (.ref a1), some (.ref a2), some (.int (a3 + (6 : Int32)))]) (pc' := 1322) zd_Law_law_1319 rfl rfl (by decide) rfl rfl ?_
        refine zg_goto (tgt := 18) zd_Law_law_1322 (by decide) ?_
        exact hK18 _ _ _ _ h
      · refine zg_icmp_eq (tgt := 1319) (pc' := 1025) zd_Law_law_1022 (by decide) rfl (fun q => absurd q c321) (fun _ => ?_)
        refine zg_iconst (x := (0 : Int32)) (pc' := 1026) zd_Law_law_1025 (by decide) rfl ?_
        obtain ⟨rfl, rfl⟩ := rt_q h
        exact zg_iret zd_Law_law_1026 (zrt_z (by decide))
    rcases br_some h with ⟨c322, h⟩ | ⟨c322, h⟩
    · refine zg_tabI (tgt := 1027) (27 : Int32) zd_Law_law_33 c322 (by decide) (by decide) rfl (by decide) ?_
      refine zg_aload_n (pc' := 1028) zd_Law_law_1027 rfl rfl ?_
      refine zg_aload_n (pc' := 1029) zd_Law_law_1028 rfl rfl ?_
      refine zg_iload_n (pc' := 1030) zd_Law_law_1029 rfl rfl ?_
      refine zg_iconst (x := (1 : Int32)) (pc' := 1031) zd_Law_law_1030 (by decide) rfl ?_
      refine zg_iadd (pc' := 1032) zd_Law_law_1031 rfl ?_
      obtain ⟨g323, h⟩ := gd_some h
      refine zg_sld (pc' := 1033) zd_Law_law_1032 (gB_ok g323) rfl ?_
      obtain ⟨g324, h⟩ := gd_some h
      obtain ⟨r327, S325, e326, h⟩ := bq_some h
      refine zg_callV (ci := 9) (As := [.int (X.2 (a3 + (1 : Int32)).toNatClampNeg)]) (rest := []) (pc' := 1036) zl_Law_127 zq748 zq749 ⟨_, rfl, rfl⟩ zd_Law_law_1033 rfl rfl (Nat.le_of_ble_eq_true rfl) (by omega) (gT_ok g324) (tm_Ls_trace (d := 3) (Nat.le_refl _) e326) rfl ?_
      refine zg_st (st' := [.int r327]) rfl ?_
      refine zg_aload_n (pc' := 1037) zd_Law_law_1036 rfl rfl ?_
      refine zg_aload_n (pc' := 1038) zd_Law_law_1037 rfl rfl ?_
      refine zg_iload_n (pc' := 1039) zd_Law_law_1038 rfl rfl ?_
      refine zg_iconst (x := (1 : Int32)) (pc' := 1040) zd_Law_law_1039 (by decide) rfl ?_
      refine zg_iadd (pc' := 1041) zd_Law_law_1040 rfl ?_
      refine zg_sld (pc' := 1042) zd_Law_law_1041 (gB_ok g323) rfl ?_
      obtain ⟨g328, h⟩ := gd_some h
      obtain ⟨r331, S329, e330, h⟩ := bq_some h
      refine zg_callV (ci := 10) (As := [.int (X.2 (a3 + (1 : Int32)).toNatClampNeg)]) (rest := [.int r327]) (pc' := 1045) zl_Law_130 zq1175 zq1176 ⟨_, rfl, rfl⟩ zd_Law_law_1042 rfl rfl (Nat.le_of_ble_eq_true rfl) (by omega) (gT_ok g328) (tm_Mo_trace (d := 3) (Nat.le_refl _) e330) rfl ?_
      refine zg_st (st' := [.int r331, .int r327]) rfl ?_
      rcases br_some h with ⟨c332, h⟩ | ⟨c332, h⟩
      · refine zg_icmp_eq (tgt := 1319) (pc' := 1048) zd_Law_law_1045 (by decide) rfl (fun _ => ?_) (fun q => absurd c332 q)
        refine zg_iinc (y := (a3 + (6 : Int32))) (L' := [some (.ref 3), some (.ref a1), some (.ref a2), some (.int (a3 + (6 : Int32)))]) (pc' := 1322) zd_Law_law_1319 rfl rfl (by decide) rfl rfl ?_
        refine zg_goto (tgt := 18) zd_Law_law_1322 (by decide) ?_
        exact hK18 _ _ _ _ h
      · refine zg_icmp_eq (tgt := 1319) (pc' := 1048) zd_Law_law_1045 (by decide) rfl (fun q => absurd q c332) (fun _ => ?_)
        refine zg_iconst (x := (0 : Int32)) (pc' := 1049) zd_Law_law_1048 (by decide) rfl ?_
        obtain ⟨rfl, rfl⟩ := rt_q h
        exact zg_iret zd_Law_law_1049 (zrt_z (by decide))
    rcases br_some h with ⟨c333, h⟩ | ⟨c333, h⟩
    · refine zg_tabI (tgt := 1050) (28 : Int32) zd_Law_law_33 c333 (by decide) (by decide) rfl (by decide) ?_
      refine zg_aload_n (pc' := 1051) zd_Law_law_1050 rfl rfl ?_
      refine zg_aload_n (pc' := 1052) zd_Law_law_1051 rfl rfl ?_
      refine zg_iload_n (pc' := 1053) zd_Law_law_1052 rfl rfl ?_
      refine zg_iconst (x := (1 : Int32)) (pc' := 1054) zd_Law_law_1053 (by decide) rfl ?_
      refine zg_iadd (pc' := 1055) zd_Law_law_1054 rfl ?_
      obtain ⟨g334, h⟩ := gd_some h
      refine zg_sld (pc' := 1056) zd_Law_law_1055 (gB_ok g334) rfl ?_
      refine zg_aload_n (pc' := 1057) zd_Law_law_1056 rfl rfl ?_
      refine zg_iload_n (pc' := 1058) zd_Law_law_1057 rfl rfl ?_
      refine zg_iconst (x := (2 : Int32)) (pc' := 1059) zd_Law_law_1058 (by decide) rfl ?_
      refine zg_iadd (pc' := 1060) zd_Law_law_1059 rfl ?_
      obtain ⟨g335, h⟩ := gd_some h
      refine zg_sld (pc' := 1061) zd_Law_law_1060 (gB_ok g335) rfl ?_
      obtain ⟨g336, h⟩ := gd_some h
      obtain ⟨r339, S337, e338, h⟩ := bq_some h
      refine zg_callV (ci := 9) (As := [.int (X.2 (a3 + (1 : Int32)).toNatClampNeg), .int (X.2 (a3 + (2 : Int32)).toNatClampNeg)]) (rest := []) (pc' := 1064) zl_Law_131 zq753 zq754 ⟨_, rfl, rfl⟩ zd_Law_law_1061 rfl rfl (Nat.le_of_ble_eq_true rfl) (by omega) (gT_ok g336) (tm_Ls_taken (d := 3) (Nat.le_refl _) e338) rfl ?_
      refine zg_st (st' := [.int r339]) rfl ?_
      refine zg_aload_n (pc' := 1065) zd_Law_law_1064 rfl rfl ?_
      refine zg_aload_n (pc' := 1066) zd_Law_law_1065 rfl rfl ?_
      refine zg_iload_n (pc' := 1067) zd_Law_law_1066 rfl rfl ?_
      refine zg_iconst (x := (1 : Int32)) (pc' := 1068) zd_Law_law_1067 (by decide) rfl ?_
      refine zg_iadd (pc' := 1069) zd_Law_law_1068 rfl ?_
      refine zg_sld (pc' := 1070) zd_Law_law_1069 (gB_ok g334) rfl ?_
      refine zg_aload_n (pc' := 1071) zd_Law_law_1070 rfl rfl ?_
      refine zg_iload_n (pc' := 1072) zd_Law_law_1071 rfl rfl ?_
      refine zg_iconst (x := (2 : Int32)) (pc' := 1073) zd_Law_law_1072 (by decide) rfl ?_
      refine zg_iadd (pc' := 1074) zd_Law_law_1073 rfl ?_
      refine zg_sld (pc' := 1075) zd_Law_law_1074 (gB_ok g335) rfl ?_
      obtain ⟨g340, h⟩ := gd_some h
      obtain ⟨r343, S341, e342, h⟩ := bq_some h
      refine zg_callV (ci := 10) (As := [.int (X.2 (a3 + (1 : Int32)).toNatClampNeg), .int (X.2 (a3 + (2 : Int32)).toNatClampNeg)]) (rest := [.int r339]) (pc' := 1078) zl_Law_134 zq1179 zq1180 ⟨_, rfl, rfl⟩ zd_Law_law_1075 rfl rfl (Nat.le_of_ble_eq_true rfl) (by omega) (gT_ok g340) (tm_Mo_taken (d := 4) (Nat.le_refl _) e342) rfl ?_
      refine zg_st (st' := [.int r343, .int r339]) rfl ?_
      rcases br_some h with ⟨c344, h⟩ | ⟨c344, h⟩
      · refine zg_icmp_eq (tgt := 1319) (pc' := 1081) zd_Law_law_1078 (by decide) rfl (fun _ => ?_) (fun q => absurd c344 q)
        refine zg_iinc (y := (a3 + (6 : Int32))) (L' := [some (.ref 3), some (.ref a1), some (.ref a2), some (.int (a3 + (6 : Int32)))]) (pc' := 1322) zd_Law_law_1319 rfl rfl (by decide) rfl rfl ?_
        refine zg_goto (tgt := 18) zd_Law_law_1322 (by decide) ?_
        exact hK18 _ _ _ _ h
      · refine zg_icmp_eq (tgt := 1319) (pc' := 1081) zd_Law_law_1078 (by decide) rfl (fun q => absurd q c344) (fun _ => ?_)
        refine zg_iconst (x := (0 : Int32)) (pc' := 1082) zd_Law_law_1081 (by decide) rfl ?_
        obtain ⟨rfl, rfl⟩ := rt_q h
        exact zg_iret zd_Law_law_1082 (zrt_z (by decide))
    rcases br_some h with ⟨c345, h⟩ | ⟨c345, h⟩
    · refine zg_tabI (tgt := 1083) (29 : Int32) zd_Law_law_33 c345 (by decide) (by decide) rfl (by decide) ?_
      refine zg_aload_n (pc' := 1084) zd_Law_law_1083 rfl rfl ?_
      refine zg_aload_n (pc' := 1085) zd_Law_law_1084 rfl rfl ?_
      refine zg_iload_n (pc' := 1086) zd_Law_law_1085 rfl rfl ?_
      refine zg_iconst (x := (1 : Int32)) (pc' := 1087) zd_Law_law_1086 (by decide) rfl ?_
      refine zg_iadd (pc' := 1088) zd_Law_law_1087 rfl ?_
      obtain ⟨g346, h⟩ := gd_some h
      refine zg_sld (pc' := 1089) zd_Law_law_1088 (gB_ok g346) rfl ?_
      obtain ⟨g347, h⟩ := gd_some h
      obtain ⟨r350, S348, e349, h⟩ := bq_some h
      refine zg_callV (ci := 9) (As := [.int (X.2 (a3 + (1 : Int32)).toNatClampNeg)]) (rest := []) (pc' := 1092) zl_Law_135 zq758 zq759 ⟨_, rfl, rfl⟩ zd_Law_law_1089 rfl rfl (Nat.le_of_ble_eq_true rfl) (by omega) (gT_ok g347) (tm_Ls_count (d := 2) (Nat.le_refl _) e349) rfl ?_
      refine zg_st (st' := [.int r350]) rfl ?_
      refine zg_aload_n (pc' := 1093) zd_Law_law_1092 rfl rfl ?_
      refine zg_aload_n (pc' := 1094) zd_Law_law_1093 rfl rfl ?_
      refine zg_iload_n (pc' := 1095) zd_Law_law_1094 rfl rfl ?_
      refine zg_iconst (x := (1 : Int32)) (pc' := 1096) zd_Law_law_1095 (by decide) rfl ?_
      refine zg_iadd (pc' := 1097) zd_Law_law_1096 rfl ?_
      refine zg_sld (pc' := 1098) zd_Law_law_1097 (gB_ok g346) rfl ?_
      obtain ⟨g351, h⟩ := gd_some h
      obtain ⟨r354, S352, e353, h⟩ := bq_some h
      refine zg_callV (ci := 10) (As := [.int (X.2 (a3 + (1 : Int32)).toNatClampNeg)]) (rest := [.int r350]) (pc' := 1101) zl_Law_138 zq1183 zq1184 ⟨_, rfl, rfl⟩ zd_Law_law_1098 rfl rfl (Nat.le_of_ble_eq_true rfl) (by omega) (gT_ok g351) (tm_Mo_count (d := 2) (Nat.le_refl _) e353) rfl ?_
      refine zg_st (st' := [.int r354, .int r350]) rfl ?_
      rcases br_some h with ⟨c355, h⟩ | ⟨c355, h⟩
      · refine zg_icmp_eq (tgt := 1319) (pc' := 1104) zd_Law_law_1101 (by decide) rfl (fun _ => ?_) (fun q => absurd c355 q)
        refine zg_iinc (y := (a3 + (6 : Int32))) (L' := [some (.ref 3), some (.ref a1), some (.ref a2), some (.int (a3 + (6 : Int32)))]) (pc' := 1322) zd_Law_law_1319 rfl rfl (by decide) rfl rfl ?_
        refine zg_goto (tgt := 18) zd_Law_law_1322 (by decide) ?_
        exact hK18 _ _ _ _ h
      · refine zg_icmp_eq (tgt := 1319) (pc' := 1104) zd_Law_law_1101 (by decide) rfl (fun q => absurd q c355) (fun _ => ?_)
        refine zg_iconst (x := (0 : Int32)) (pc' := 1105) zd_Law_law_1104 (by decide) rfl ?_
        obtain ⟨rfl, rfl⟩ := rt_q h
        exact zg_iret zd_Law_law_1105 (zrt_z (by decide))
    rcases br_some h with ⟨c356, h⟩ | ⟨c356, h⟩
    · refine zg_tabI (tgt := 1106) (30 : Int32) zd_Law_law_33 c356 (by decide) (by decide) rfl (by decide) ?_
      refine zg_aload_n (pc' := 1107) zd_Law_law_1106 rfl rfl ?_
      refine zg_aload_n (pc' := 1108) zd_Law_law_1107 rfl rfl ?_
      refine zg_iload_n (pc' := 1109) zd_Law_law_1108 rfl rfl ?_
      refine zg_iconst (x := (1 : Int32)) (pc' := 1110) zd_Law_law_1109 (by decide) rfl ?_
      refine zg_iadd (pc' := 1111) zd_Law_law_1110 rfl ?_
      obtain ⟨g357, h⟩ := gd_some h
      refine zg_sld (pc' := 1112) zd_Law_law_1111 (gB_ok g357) rfl ?_
      refine zg_aload_n (pc' := 1113) zd_Law_law_1112 rfl rfl ?_
      refine zg_iload_n (pc' := 1114) zd_Law_law_1113 rfl rfl ?_
      refine zg_iconst (x := (2 : Int32)) (pc' := 1115) zd_Law_law_1114 (by decide) rfl ?_
      refine zg_iadd (pc' := 1116) zd_Law_law_1115 rfl ?_
      obtain ⟨g358, h⟩ := gd_some h
      refine zg_sld (pc' := 1117) zd_Law_law_1116 (gB_ok g358) rfl ?_
      refine zg_aload_n (pc' := 1118) zd_Law_law_1117 rfl rfl ?_
      refine zg_iload_n (pc' := 1119) zd_Law_law_1118 rfl rfl ?_
      refine zg_iconst (x := (3 : Int32)) (pc' := 1120) zd_Law_law_1119 (by decide) rfl ?_
      refine zg_iadd (pc' := 1121) zd_Law_law_1120 rfl ?_
      obtain ⟨g359, h⟩ := gd_some h
      refine zg_sld (pc' := 1122) zd_Law_law_1121 (gB_ok g359) rfl ?_
      obtain ⟨g360, h⟩ := gd_some h
      obtain ⟨r363, S361, e362, h⟩ := bq_some h
      refine zg_callV (ci := 9) (As := [.int (X.2 (a3 + (1 : Int32)).toNatClampNeg), .int (X.2 (a3 + (2 : Int32)).toNatClampNeg), .int (X.2 (a3 + (3 : Int32)).toNatClampNeg)]) (rest := []) (pc' := 1125) zl_Law_139 zq762 zq763 ⟨_, rfl, rfl⟩ zd_Law_law_1122 rfl rfl (Nat.le_of_ble_eq_true rfl) (by omega) (gT_ok g360) (tm_Ls_tape (d := 4) (Nat.le_refl _) e362) rfl ?_
      refine zg_st (st' := [.int r363]) rfl ?_
      refine zg_aload_n (pc' := 1126) zd_Law_law_1125 rfl rfl ?_
      refine zg_aload_n (pc' := 1127) zd_Law_law_1126 rfl rfl ?_
      refine zg_iload_n (pc' := 1128) zd_Law_law_1127 rfl rfl ?_
      refine zg_iconst (x := (1 : Int32)) (pc' := 1129) zd_Law_law_1128 (by decide) rfl ?_
      refine zg_iadd (pc' := 1130) zd_Law_law_1129 rfl ?_
      refine zg_sld (pc' := 1131) zd_Law_law_1130 (gB_ok g357) rfl ?_
      refine zg_aload_n (pc' := 1132) zd_Law_law_1131 rfl rfl ?_
      refine zg_iload_n (pc' := 1133) zd_Law_law_1132 rfl rfl ?_
      refine zg_iconst (x := (2 : Int32)) (pc' := 1134) zd_Law_law_1133 (by decide) rfl ?_
      refine zg_iadd (pc' := 1135) zd_Law_law_1134 rfl ?_
      refine zg_sld (pc' := 1136) zd_Law_law_1135 (gB_ok g358) rfl ?_
      refine zg_aload_n (pc' := 1137) zd_Law_law_1136 rfl rfl ?_
      refine zg_iload_n (pc' := 1138) zd_Law_law_1137 rfl rfl ?_
      refine zg_iconst (x := (3 : Int32)) (pc' := 1139) zd_Law_law_1138 (by decide) rfl ?_
      refine zg_iadd (pc' := 1140) zd_Law_law_1139 rfl ?_
      refine zg_sld (pc' := 1141) zd_Law_law_1140 (gB_ok g359) rfl ?_
      obtain ⟨g364, h⟩ := gd_some h
      obtain ⟨r367, S365, e366, h⟩ := bq_some h
      refine zg_callV (ci := 10) (As := [.int (X.2 (a3 + (1 : Int32)).toNatClampNeg), .int (X.2 (a3 + (2 : Int32)).toNatClampNeg), .int (X.2 (a3 + (3 : Int32)).toNatClampNeg)]) (rest := [.int r363]) (pc' := 1144) zl_Law_142 zq1187 zq1188 ⟨_, rfl, rfl⟩ zd_Law_law_1141 rfl rfl (Nat.le_of_ble_eq_true rfl) (by omega) (gT_ok g364) (tm_Mo_tape (d := 4) (Nat.le_refl _) e366) rfl ?_
      refine zg_st (st' := [.int r367, .int r363]) rfl ?_
      rcases br_some h with ⟨c368, h⟩ | ⟨c368, h⟩
      · refine zg_icmp_eq (tgt := 1319) (pc' := 1147) zd_Law_law_1144 (by decide) rfl (fun _ => ?_) (fun q => absurd c368 q)
        refine zg_iinc (y := (a3 + (6 : Int32))) (L' := [some (.ref 3), some (.ref a1), some (.ref a2), some (.int (a3 + (6 : Int32)))]) (pc' := 1322) zd_Law_law_1319 rfl rfl (by decide) rfl rfl ?_
        refine zg_goto (tgt := 18) zd_Law_law_1322 (by decide) ?_
        exact hK18 _ _ _ _ h
      · refine zg_icmp_eq (tgt := 1319) (pc' := 1147) zd_Law_law_1144 (by decide) rfl (fun q => absurd q c368) (fun _ => ?_)
        refine zg_iconst (x := (0 : Int32)) (pc' := 1148) zd_Law_law_1147 (by decide) rfl ?_
        obtain ⟨rfl, rfl⟩ := rt_q h
        exact zg_iret zd_Law_law_1148 (zrt_z (by decide))
    rcases br_some h with ⟨c369, h⟩ | ⟨c369, h⟩
    · refine zg_tabI (tgt := 1149) (31 : Int32) zd_Law_law_33 c369 (by decide) (by decide) rfl (by decide) ?_
      refine zg_aload_n (pc' := 1150) zd_Law_law_1149 rfl rfl ?_
      refine zg_aload_n (pc' := 1151) zd_Law_law_1150 rfl rfl ?_
      refine zg_iload_n (pc' := 1152) zd_Law_law_1151 rfl rfl ?_
      refine zg_iconst (x := (1 : Int32)) (pc' := 1153) zd_Law_law_1152 (by decide) rfl ?_
      refine zg_iadd (pc' := 1154) zd_Law_law_1153 rfl ?_
      obtain ⟨g370, h⟩ := gd_some h
      refine zg_sld (pc' := 1155) zd_Law_law_1154 (gB_ok g370) rfl ?_
      refine zg_aload_n (pc' := 1156) zd_Law_law_1155 rfl rfl ?_
      refine zg_iload_n (pc' := 1157) zd_Law_law_1156 rfl rfl ?_
      refine zg_iconst (x := (2 : Int32)) (pc' := 1158) zd_Law_law_1157 (by decide) rfl ?_
      refine zg_iadd (pc' := 1159) zd_Law_law_1158 rfl ?_
      obtain ⟨g371, h⟩ := gd_some h
      refine zg_sld (pc' := 1160) zd_Law_law_1159 (gB_ok g371) rfl ?_
      refine zg_aload_n (pc' := 1161) zd_Law_law_1160 rfl rfl ?_
      refine zg_iload_n (pc' := 1162) zd_Law_law_1161 rfl rfl ?_
      refine zg_iconst (x := (3 : Int32)) (pc' := 1163) zd_Law_law_1162 (by decide) rfl ?_
      refine zg_iadd (pc' := 1164) zd_Law_law_1163 rfl ?_
      obtain ⟨g372, h⟩ := gd_some h
      refine zg_sld (pc' := 1165) zd_Law_law_1164 (gB_ok g372) rfl ?_
      refine zg_i2l (pc' := 1166) zd_Law_law_1165 rfl ?_
      refine zg_bipush (x := (32 : Int32)) (pc' := 1168) zd_Law_law_1166 (by decide) rfl ?_
      refine zg_lshl (pc' := 1169) zd_Law_law_1168 rfl ?_
      refine zg_aload_n (pc' := 1170) zd_Law_law_1169 rfl rfl ?_
      refine zg_iload_n (pc' := 1171) zd_Law_law_1170 rfl rfl ?_
      refine zg_iconst (x := (4 : Int32)) (pc' := 1172) zd_Law_law_1171 (by decide) rfl ?_
      refine zg_iadd (pc' := 1173) zd_Law_law_1172 rfl ?_
      obtain ⟨g373, h⟩ := gd_some h
      refine zg_sld (pc' := 1174) zd_Law_law_1173 (gB_ok g373) rfl ?_
      refine zg_i2l (pc' := 1175) zd_Law_law_1174 rfl ?_
      refine zg_ldc2 (x := (4294967295 : Int64)) (pc' := 1178) zd_Law_law_1175 zq1209 rfl ?_
      refine zg_land (pc' := 1179) zd_Law_law_1178 rfl ?_
      refine zg_lor (pc' := 1180) zd_Law_law_1179 rfl ?_
      obtain ⟨g374, h⟩ := gd_some h
      obtain ⟨r377, S375, e376, h⟩ := bq_some h
      refine zg_callV (ci := 9) (As := [.int (X.2 (a3 + (1 : Int32)).toNatClampNeg), .int (X.2 (a3 + (2 : Int32)).toNatClampNeg), .long ((((X.2 (a3 + (3 : Int32)).toNatClampNeg).toInt64) <<< ((32 : Int32).toInt64 &&& 63)) ||| (((X.2 (a3 + (4 : Int32)).toNatClampNeg).toInt64) &&& (4294967295 : Int64)))]) (rest := []) (pc' := 1183) zl_Law_145 zq774 zq775 ⟨_, rfl, rfl⟩ zd_Law_law_1180 rfl rfl (Nat.le_of_ble_eq_true rfl) (by omega) (gT_ok g374) (tm_Ls_item (d := 3) (Nat.le_refl _) e376) rfl ?_
      refine zg_st (st' := [.int r377]) rfl ?_
      refine zg_aload_n (pc' := 1184) zd_Law_law_1183 rfl rfl ?_
      refine zg_aload_n (pc' := 1185) zd_Law_law_1184 rfl rfl ?_
      refine zg_iload_n (pc' := 1186) zd_Law_law_1185 rfl rfl ?_
      refine zg_iconst (x := (1 : Int32)) (pc' := 1187) zd_Law_law_1186 (by decide) rfl ?_
      refine zg_iadd (pc' := 1188) zd_Law_law_1187 rfl ?_
      refine zg_sld (pc' := 1189) zd_Law_law_1188 (gB_ok g370) rfl ?_
      refine zg_aload_n (pc' := 1190) zd_Law_law_1189 rfl rfl ?_
      refine zg_iload_n (pc' := 1191) zd_Law_law_1190 rfl rfl ?_
      refine zg_iconst (x := (2 : Int32)) (pc' := 1192) zd_Law_law_1191 (by decide) rfl ?_
      refine zg_iadd (pc' := 1193) zd_Law_law_1192 rfl ?_
      refine zg_sld (pc' := 1194) zd_Law_law_1193 (gB_ok g371) rfl ?_
      refine zg_aload_n (pc' := 1195) zd_Law_law_1194 rfl rfl ?_
      refine zg_iload_n (pc' := 1196) zd_Law_law_1195 rfl rfl ?_
      refine zg_iconst (x := (3 : Int32)) (pc' := 1197) zd_Law_law_1196 (by decide) rfl ?_
      refine zg_iadd (pc' := 1198) zd_Law_law_1197 rfl ?_
      refine zg_sld (pc' := 1199) zd_Law_law_1198 (gB_ok g372) rfl ?_
      refine zg_i2l (pc' := 1200) zd_Law_law_1199 rfl ?_
      refine zg_bipush (x := (32 : Int32)) (pc' := 1202) zd_Law_law_1200 (by decide) rfl ?_
      refine zg_lshl (pc' := 1203) zd_Law_law_1202 rfl ?_
      refine zg_aload_n (pc' := 1204) zd_Law_law_1203 rfl rfl ?_
      refine zg_iload_n (pc' := 1205) zd_Law_law_1204 rfl rfl ?_
      refine zg_iconst (x := (4 : Int32)) (pc' := 1206) zd_Law_law_1205 (by decide) rfl ?_
      refine zg_iadd (pc' := 1207) zd_Law_law_1206 rfl ?_
      refine zg_sld (pc' := 1208) zd_Law_law_1207 (gB_ok g373) rfl ?_
      refine zg_i2l (pc' := 1209) zd_Law_law_1208 rfl ?_
      refine zg_ldc2 (x := (4294967295 : Int64)) (pc' := 1212) zd_Law_law_1209 zq1209 rfl ?_
      refine zg_land (pc' := 1213) zd_Law_law_1212 rfl ?_
      refine zg_lor (pc' := 1214) zd_Law_law_1213 rfl ?_
      obtain ⟨g378, h⟩ := gd_some h
      obtain ⟨r381, S379, e380, h⟩ := bq_some h
      refine zg_callV (ci := 10) (As := [.int (X.2 (a3 + (1 : Int32)).toNatClampNeg), .int (X.2 (a3 + (2 : Int32)).toNatClampNeg), .long ((((X.2 (a3 + (3 : Int32)).toNatClampNeg).toInt64) <<< ((32 : Int32).toInt64 &&& 63)) ||| (((X.2 (a3 + (4 : Int32)).toNatClampNeg).toInt64) &&& (4294967295 : Int64)))]) (rest := [.int r377]) (pc' := 1217) zl_Law_149 zq1194 zq1195 ⟨_, rfl, rfl⟩ zd_Law_law_1214 rfl rfl (Nat.le_of_ble_eq_true rfl) (by omega) (gT_ok g378) (tm_Mo_item (d := 4) (Nat.le_refl _) e380) rfl ?_
      refine zg_st (st' := [.int r381, .int r377]) rfl ?_
      rcases br_some h with ⟨c382, h⟩ | ⟨c382, h⟩
      · refine zg_icmp_eq (tgt := 1319) (pc' := 1220) zd_Law_law_1217 (by decide) rfl (fun _ => ?_) (fun q => absurd c382 q)
        refine zg_iinc (y := (a3 + (6 : Int32))) (L' := [some (.ref 3), some (.ref a1), some (.ref a2), some (.int (a3 + (6 : Int32)))]) (pc' := 1322) zd_Law_law_1319 rfl rfl (by decide) rfl rfl ?_
        refine zg_goto (tgt := 18) zd_Law_law_1322 (by decide) ?_
        exact hK18 _ _ _ _ h
      · refine zg_icmp_eq (tgt := 1319) (pc' := 1220) zd_Law_law_1217 (by decide) rfl (fun q => absurd q c382) (fun _ => ?_)
        refine zg_iconst (x := (0 : Int32)) (pc' := 1221) zd_Law_law_1220 (by decide) rfl ?_
        obtain ⟨rfl, rfl⟩ := rt_q h
        exact zg_iret zd_Law_law_1221 (zrt_z (by decide))
    rcases br_some h with ⟨c383, h⟩ | ⟨c383, h⟩
    · refine zg_tabI (tgt := 1222) (32 : Int32) zd_Law_law_33 c383 (by decide) (by decide) rfl (by decide) ?_
      refine zg_aload_n (pc' := 1223) zd_Law_law_1222 rfl rfl ?_
      refine zg_aload_n (pc' := 1224) zd_Law_law_1223 rfl rfl ?_
      refine zg_iload_n (pc' := 1225) zd_Law_law_1224 rfl rfl ?_
      refine zg_iconst (x := (1 : Int32)) (pc' := 1226) zd_Law_law_1225 (by decide) rfl ?_
      refine zg_iadd (pc' := 1227) zd_Law_law_1226 rfl ?_
      obtain ⟨g384, h⟩ := gd_some h
      refine zg_sld (pc' := 1228) zd_Law_law_1227 (gB_ok g384) rfl ?_
      refine zg_aload_n (pc' := 1229) zd_Law_law_1228 rfl rfl ?_
      refine zg_iload_n (pc' := 1230) zd_Law_law_1229 rfl rfl ?_
      refine zg_iconst (x := (2 : Int32)) (pc' := 1231) zd_Law_law_1230 (by decide) rfl ?_
      refine zg_iadd (pc' := 1232) zd_Law_law_1231 rfl ?_
      obtain ⟨g385, h⟩ := gd_some h
      refine zg_sld (pc' := 1233) zd_Law_law_1232 (gB_ok g385) rfl ?_
      obtain ⟨g386, h⟩ := gd_some h
      obtain ⟨r389, S387, e388, h⟩ := bq_some h
      refine zg_callV (ci := 9) (As := [.int (X.2 (a3 + (1 : Int32)).toNatClampNeg), .int (X.2 (a3 + (2 : Int32)).toNatClampNeg)]) (rest := []) (pc' := 1236) zl_Law_150 zq782 zq783 ⟨_, rfl, rfl⟩ zd_Law_law_1233 rfl rfl (Nat.le_of_ble_eq_true rfl) (by omega) (gT_ok g386) (tm_Ls_read (d := 3) (Nat.le_refl _) e388) rfl ?_
      refine zg_st (st' := [.long r389]) rfl ?_
      refine zg_aload_n (pc' := 1237) zd_Law_law_1236 rfl rfl ?_
      refine zg_aload_n (pc' := 1238) zd_Law_law_1237 rfl rfl ?_
      refine zg_iload_n (pc' := 1239) zd_Law_law_1238 rfl rfl ?_
      refine zg_iconst (x := (1 : Int32)) (pc' := 1240) zd_Law_law_1239 (by decide) rfl ?_
      refine zg_iadd (pc' := 1241) zd_Law_law_1240 rfl ?_
      refine zg_sld (pc' := 1242) zd_Law_law_1241 (gB_ok g384) rfl ?_
      refine zg_aload_n (pc' := 1243) zd_Law_law_1242 rfl rfl ?_
      refine zg_iload_n (pc' := 1244) zd_Law_law_1243 rfl rfl ?_
      refine zg_iconst (x := (2 : Int32)) (pc' := 1245) zd_Law_law_1244 (by decide) rfl ?_
      refine zg_iadd (pc' := 1246) zd_Law_law_1245 rfl ?_
      refine zg_sld (pc' := 1247) zd_Law_law_1246 (gB_ok g385) rfl ?_
      obtain ⟨g390, h⟩ := gd_some h
      obtain ⟨r393, S391, e392, h⟩ := bq_some h
      refine zg_callV (ci := 10) (As := [.int (X.2 (a3 + (1 : Int32)).toNatClampNeg), .int (X.2 (a3 + (2 : Int32)).toNatClampNeg)]) (rest := [.long r389]) (pc' := 1250) zl_Law_153 zq1198 zq1199 ⟨_, rfl, rfl⟩ zd_Law_law_1247 rfl rfl (Nat.le_of_ble_eq_true rfl) (by omega) (gT_ok g390) (tm_Mo_read (d := 4) (Nat.le_refl _) e392) rfl ?_
      refine zg_st (st' := [.long r393, .long r389]) rfl ?_
      refine zg_lcm (pc' := 1251) zd_Law_law_1250 rfl ?_
      rcases br_some h with ⟨c394, h⟩ | ⟨c394, h⟩
      · refine zg_if_eq (tgt := 1319) (pc' := 1254) zd_Law_law_1251 (by decide) rfl (fun _ => ?_) (fun q => absurd c394 q)
        refine zg_iinc (y := (a3 + (6 : Int32))) (L' := [some (.ref 3), some (.ref a1), some (.ref a2), some (.int (a3 + (6 : Int32)))]) (pc' := 1322) zd_Law_law_1319 rfl rfl (by decide) rfl rfl ?_
        refine zg_goto (tgt := 18) zd_Law_law_1322 (by decide) ?_
        exact hK18 _ _ _ _ h
      · refine zg_if_eq (tgt := 1319) (pc' := 1254) zd_Law_law_1251 (by decide) rfl (fun q => absurd q c394) (fun _ => ?_)
        refine zg_iconst (x := (0 : Int32)) (pc' := 1255) zd_Law_law_1254 (by decide) rfl ?_
        obtain ⟨rfl, rfl⟩ := rt_q h
        exact zg_iret zd_Law_law_1255 (zrt_z (by decide))
    rcases br_some h with ⟨c395, h⟩ | ⟨c395, h⟩
    · refine zg_tabI (tgt := 1256) (33 : Int32) zd_Law_law_33 c395 (by decide) (by decide) rfl (by decide) ?_
      refine zg_aload_n (pc' := 1257) zd_Law_law_1256 rfl rfl ?_
      refine zg_aload_n (pc' := 1258) zd_Law_law_1257 rfl rfl ?_
      refine zg_iload_n (pc' := 1259) zd_Law_law_1258 rfl rfl ?_
      refine zg_iconst (x := (1 : Int32)) (pc' := 1260) zd_Law_law_1259 (by decide) rfl ?_
      refine zg_iadd (pc' := 1261) zd_Law_law_1260 rfl ?_
      obtain ⟨g396, h⟩ := gd_some h
      refine zg_sld (pc' := 1262) zd_Law_law_1261 (gB_ok g396) rfl ?_
      refine zg_aload_n (pc' := 1263) zd_Law_law_1262 rfl rfl ?_
      refine zg_iload_n (pc' := 1264) zd_Law_law_1263 rfl rfl ?_
      refine zg_iconst (x := (2 : Int32)) (pc' := 1265) zd_Law_law_1264 (by decide) rfl ?_
      refine zg_iadd (pc' := 1266) zd_Law_law_1265 rfl ?_
      obtain ⟨g397, h⟩ := gd_some h
      refine zg_sld (pc' := 1267) zd_Law_law_1266 (gB_ok g397) rfl ?_
      refine zg_aload_n (pc' := 1268) zd_Law_law_1267 rfl rfl ?_
      refine zg_iload_n (pc' := 1269) zd_Law_law_1268 rfl rfl ?_
      refine zg_iconst (x := (3 : Int32)) (pc' := 1270) zd_Law_law_1269 (by decide) rfl ?_
      refine zg_iadd (pc' := 1271) zd_Law_law_1270 rfl ?_
      obtain ⟨g398, h⟩ := gd_some h
      refine zg_sld (pc' := 1272) zd_Law_law_1271 (gB_ok g398) rfl ?_
      refine zg_aload_n (pc' := 1273) zd_Law_law_1272 rfl rfl ?_
      refine zg_iload_n (pc' := 1274) zd_Law_law_1273 rfl rfl ?_
      refine zg_iconst (x := (4 : Int32)) (pc' := 1275) zd_Law_law_1274 (by decide) rfl ?_
      refine zg_iadd (pc' := 1276) zd_Law_law_1275 rfl ?_
      obtain ⟨g399, h⟩ := gd_some h
      refine zg_sld (pc' := 1277) zd_Law_law_1276 (gB_ok g399) rfl ?_
      refine zg_aload_n (pc' := 1278) zd_Law_law_1277 rfl rfl ?_
      refine zg_iload_n (pc' := 1279) zd_Law_law_1278 rfl rfl ?_
      refine zg_iconst (x := (5 : Int32)) (pc' := 1280) zd_Law_law_1279 (by decide) rfl ?_
      refine zg_iadd (pc' := 1281) zd_Law_law_1280 rfl ?_
      obtain ⟨g400, h⟩ := gd_some h
      refine zg_sld (pc' := 1282) zd_Law_law_1281 (gB_ok g400) rfl ?_
      obtain ⟨g401, h⟩ := gd_some h
      obtain ⟨r404, S402, e403, h⟩ := bq_some h
      refine zg_callV (ci := 9) (As := [.int (X.2 (a3 + (1 : Int32)).toNatClampNeg), .int (X.2 (a3 + (2 : Int32)).toNatClampNeg), .int (X.2 (a3 + (3 : Int32)).toNatClampNeg), .int (X.2 (a3 + (4 : Int32)).toNatClampNeg), .int (X.2 (a3 + (5 : Int32)).toNatClampNeg)]) (rest := []) (pc' := 1285) zl_Law_154 zq786 zq787 ⟨_, rfl, rfl⟩ zd_Law_law_1282 rfl rfl (Nat.le_of_ble_eq_true rfl) (by omega) (gT_ok g401) (tm_Ls_shift (d := 3) (Nat.le_refl _) e403) rfl ?_
      refine zg_st (st' := [.int r404]) rfl ?_
      refine zg_aload_n (pc' := 1286) zd_Law_law_1285 rfl rfl ?_
      refine zg_aload_n (pc' := 1287) zd_Law_law_1286 rfl rfl ?_
      refine zg_iload_n (pc' := 1288) zd_Law_law_1287 rfl rfl ?_
      refine zg_iconst (x := (1 : Int32)) (pc' := 1289) zd_Law_law_1288 (by decide) rfl ?_
      refine zg_iadd (pc' := 1290) zd_Law_law_1289 rfl ?_
      refine zg_sld (pc' := 1291) zd_Law_law_1290 (gB_ok g396) rfl ?_
      refine zg_aload_n (pc' := 1292) zd_Law_law_1291 rfl rfl ?_
      refine zg_iload_n (pc' := 1293) zd_Law_law_1292 rfl rfl ?_
      refine zg_iconst (x := (2 : Int32)) (pc' := 1294) zd_Law_law_1293 (by decide) rfl ?_
      refine zg_iadd (pc' := 1295) zd_Law_law_1294 rfl ?_
      refine zg_sld (pc' := 1296) zd_Law_law_1295 (gB_ok g397) rfl ?_
      refine zg_aload_n (pc' := 1297) zd_Law_law_1296 rfl rfl ?_
      refine zg_iload_n (pc' := 1298) zd_Law_law_1297 rfl rfl ?_
      refine zg_iconst (x := (3 : Int32)) (pc' := 1299) zd_Law_law_1298 (by decide) rfl ?_
      refine zg_iadd (pc' := 1300) zd_Law_law_1299 rfl ?_
      refine zg_sld (pc' := 1301) zd_Law_law_1300 (gB_ok g398) rfl ?_
      refine zg_aload_n (pc' := 1302) zd_Law_law_1301 rfl rfl ?_
      refine zg_iload_n (pc' := 1303) zd_Law_law_1302 rfl rfl ?_
      refine zg_iconst (x := (4 : Int32)) (pc' := 1304) zd_Law_law_1303 (by decide) rfl ?_
      refine zg_iadd (pc' := 1305) zd_Law_law_1304 rfl ?_
      refine zg_sld (pc' := 1306) zd_Law_law_1305 (gB_ok g399) rfl ?_
      refine zg_aload_n (pc' := 1307) zd_Law_law_1306 rfl rfl ?_
      refine zg_iload_n (pc' := 1308) zd_Law_law_1307 rfl rfl ?_
      refine zg_iconst (x := (5 : Int32)) (pc' := 1309) zd_Law_law_1308 (by decide) rfl ?_
      refine zg_iadd (pc' := 1310) zd_Law_law_1309 rfl ?_
      refine zg_sld (pc' := 1311) zd_Law_law_1310 (gB_ok g400) rfl ?_
      obtain ⟨g405, h⟩ := gd_some h
      obtain ⟨r408, S406, e407, h⟩ := bq_some h
      refine zg_callV (ci := 10) (As := [.int (X.2 (a3 + (1 : Int32)).toNatClampNeg), .int (X.2 (a3 + (2 : Int32)).toNatClampNeg), .int (X.2 (a3 + (3 : Int32)).toNatClampNeg), .int (X.2 (a3 + (4 : Int32)).toNatClampNeg), .int (X.2 (a3 + (5 : Int32)).toNatClampNeg)]) (rest := [.int r404]) (pc' := 1314) zl_Law_158 zq1202 zq1203 ⟨_, rfl, rfl⟩ zd_Law_law_1311 rfl rfl (Nat.le_of_ble_eq_true rfl) (by omega) (gT_ok g405) (tm_Mo_shift (d := 4) (Nat.le_refl _) e407) rfl ?_
      refine zg_st (st' := [.int r408, .int r404]) rfl ?_
      rcases br_some h with ⟨c409, h⟩ | ⟨c409, h⟩
      · refine zg_icmp_eq (tgt := 1319) (pc' := 1317) zd_Law_law_1314 (by decide) rfl (fun _ => ?_) (fun q => absurd c409 q)
        refine zg_iinc (y := (a3 + (6 : Int32))) (L' := [some (.ref 3), some (.ref a1), some (.ref a2), some (.int (a3 + (6 : Int32)))]) (pc' := 1322) zd_Law_law_1319 rfl rfl (by decide) rfl rfl ?_
        refine zg_goto (tgt := 18) zd_Law_law_1322 (by decide) ?_
        exact hK18 _ _ _ _ h
      · refine zg_icmp_eq (tgt := 1319) (pc' := 1317) zd_Law_law_1314 (by decide) rfl (fun q => absurd q c409) (fun _ => ?_)
        refine zg_iconst (x := (0 : Int32)) (pc' := 1318) zd_Law_law_1317 (by decide) rfl ?_
        obtain ⟨rfl, rfl⟩ := rt_q h
        exact zg_iret zd_Law_law_1318 (zrt_z (by decide))
    refine zg_tableD (tgt := 1319) [(0 : Int32), (1 : Int32), (2 : Int32), (3 : Int32), (4 : Int32), (5 : Int32), (6 : Int32), (7 : Int32), (8 : Int32), (9 : Int32), (10 : Int32), (11 : Int32), (12 : Int32), (13 : Int32), (14 : Int32), (15 : Int32), (16 : Int32), (17 : Int32), (18 : Int32), (19 : Int32), (20 : Int32), (21 : Int32), (22 : Int32), (23 : Int32), (24 : Int32), (25 : Int32), (26 : Int32), (27 : Int32), (28 : Int32), (29 : Int32), (30 : Int32), (31 : Int32), (32 : Int32), (33 : Int32)] zd_Law_law_33 (by decide) (List.forall_mem_cons.mpr ⟨c3, List.forall_mem_cons.mpr ⟨c16, List.forall_mem_cons.mpr ⟨c28, List.forall_mem_cons.mpr ⟨c41, List.forall_mem_cons.mpr ⟨c53, List.forall_mem_cons.mpr ⟨c66, List.forall_mem_cons.mpr ⟨c78, List.forall_mem_cons.mpr ⟨c91, List.forall_mem_cons.mpr ⟨c102, List.forall_mem_cons.mpr ⟨c112, List.forall_mem_cons.mpr ⟨c123, List.forall_mem_cons.mpr ⟨c134, List.forall_mem_cons.mpr ⟨c146, List.forall_mem_cons.mpr ⟨c157, List.forall_mem_cons.mpr ⟨c170, List.forall_mem_cons.mpr ⟨c183, List.forall_mem_cons.mpr ⟨c195, List.forall_mem_cons.mpr ⟨c207, List.forall_mem_cons.mpr ⟨c220, List.forall_mem_cons.mpr ⟨c232, List.forall_mem_cons.mpr ⟨c244, List.forall_mem_cons.mpr ⟨c255, List.forall_mem_cons.mpr ⟨c267, List.forall_mem_cons.mpr ⟨c277, List.forall_mem_cons.mpr ⟨c289, List.forall_mem_cons.mpr ⟨c299, List.forall_mem_cons.mpr ⟨c309, List.forall_mem_cons.mpr ⟨c322, List.forall_mem_cons.mpr ⟨c333, List.forall_mem_cons.mpr ⟨c345, List.forall_mem_cons.mpr ⟨c356, List.forall_mem_cons.mpr ⟨c369, List.forall_mem_cons.mpr ⟨c383, List.forall_mem_cons.mpr ⟨c395, fun _ h => absurd h List.not_mem_nil⟩⟩⟩⟩⟩⟩⟩⟩⟩⟩⟩⟩⟩⟩⟩⟩⟩⟩⟩⟩⟩⟩⟩⟩⟩⟩⟩⟩⟩⟩⟩⟩⟩⟩) (by decide) ?_
    refine zg_iinc (y := (a3 + (6 : Int32))) (L' := [some (.ref 3), some (.ref a1), some (.ref a2), some (.int (a3 + (6 : Int32)))]) (pc' := 1322) zd_Law_law_1319 rfl rfl (by decide) rfl rfl ?_
    refine zg_goto (tgt := 18) zd_Law_law_1322 (by decide) ?_
    exact hK18 _ _ _ _ h
set_option maxRecDepth 100000 in
def fn_Law_law (X : zXt)  (S : zS) : Option (Int32 × zS) :=
  nm (uN S (100 + 9, 12)) fun S1 =>
  gd (gT S1 (zN S) 109) <|
  bv (fn_Ls_init (zN S) S1) fun S3 =>
  nm (uN S3 (100 + 10, 32)) fun S5 =>
  gd (gT S5 (zN S3) 110) <|
  bv (fn_Mo_init (zN S3) S5) fun S7 =>
  lp (σ := Nat × Nat × Int32 × zS) (fun k s => fn_Law_law_L18 X s.1 s.2.1 s.2.2.1 s.2.2.2 (fun (a1 : Nat) (a2 : Nat) (a3 : Int32) (S : zS) => k (a1, a2, a3, S))) FU ((zN S), (zN S3), (0 : Int32), S7)
set_option maxRecDepth 100000 in
set_option maxHeartbeats 4000000 in
theorem tm_Law_law {X : zXt} {d : Nat} (hd : 133 ≤ d) {v : Int32} {S : zS} {S' : zS} (h : fn_Law_law X S = some (v, S')) : zG X zm_Law_law d 0 [some (.ref 3), none, none, none] [] S (some (.int v)) S' := by
  unfold fn_Law_law at h
  refine zg_new (pc' := 3) zc_Law_7 zd_Law_law_0 rfl ?_
  obtain ⟨S1, eS1, h⟩ := nm_some h
  refine zg_nm eS1 ?_
  refine zg_dup (pc' := 4) zd_Law_law_3 rfl rfl ?_
  obtain ⟨g2, h⟩ := gd_some h
  obtain ⟨S3, e4, h⟩ := bv_some h
  refine zg_callI (ci := 9) (As := []) (rest := [.ref (zN S)]) (pc' := 7) zl_Law_9 zq22 rfl ⟨_, rfl, rfl⟩ zd_Law_law_4 rfl rfl (Nat.le_of_ble_eq_true rfl) (by omega) (gT_ok g2) (tm_Ls_init (d := 4) (Nat.le_refl _) e4) rfl ?_
  refine zg_st (st' := [.ref (zN S)]) rfl ?_
  refine zg_astore_n (L' := [some (.ref 3), some (.ref (zN S)), none, none]) (pc' := 8) zd_Law_law_7 (by decide) rfl rfl ?_
  refine zg_new (pc' := 11) zc_Law_10 zd_Law_law_8 rfl ?_
  obtain ⟨S5, eS5, h⟩ := nm_some h
  refine zg_nm eS5 ?_
  refine zg_dup (pc' := 12) zd_Law_law_11 rfl rfl ?_
  obtain ⟨g6, h⟩ := gd_some h
  obtain ⟨S7, e8, h⟩ := bv_some h
  refine zg_callI (ci := 10) (As := []) (rest := [.ref (zN S3)]) (pc' := 15) zl_Law_12 zq793 rfl ⟨_, rfl, rfl⟩ zd_Law_law_12 rfl rfl (Nat.le_of_ble_eq_true rfl) (by omega) (gT_ok g6) (tm_Mo_init (d := 2) (Nat.le_refl _) e8) rfl ?_
  refine zg_st (st' := [.ref (zN S3)]) rfl ?_
  refine zg_astore_n (L' := [some (.ref 3), some (.ref (zN S)), some (.ref (zN S3)), none]) (pc' := 16) zd_Law_law_15 (by decide) rfl rfl ?_
  refine zg_iconst (x := (0 : Int32)) (pc' := 17) zd_Law_law_16 (by decide) rfl ?_
  refine zg_istore_n (L' := [some (.ref 3), some (.ref (zN S)), some (.ref (zN S3)), some (.int (0 : Int32))]) (pc' := 18) zd_Law_law_17 (by decide) rfl rfl ?_
  exact lp_indh h (P := fun s => zG X zm_Law_law d 18 [some (.ref 3), some (.ref (s.1)), some (.ref (s.2.1)), some (.int (s.2.2.1))] [] (s.2.2.2) (some (.int v)) S') (fun k hk s h => tm_Law_law_L18 hd (fun a1 a2 a3 S h => hk (a1, a2, a3, S) h) h)
