/-! THE LAW: its instructions. -/
theorem dl_1075 : decode code 1075 = .ok (.iconst 2, 1) := by decide +kernel
theorem dl_1076 : decode code 1076 = .ok (.iadd, 1) := by decide +kernel
theorem dl_1077 : decode code 1077 = .ok (.iaload, 1) := by decide +kernel
theorem dl_1078 : decode code 1078 = .ok (.aload_n 0, 1) := by decide +kernel
theorem dl_1079 : decode code 1079 = .ok (.iload_n 3, 1) := by decide +kernel
theorem dl_1080 : decode code 1080 = .ok (.iconst 3, 1) := by decide +kernel
theorem dl_1081 : decode code 1081 = .ok (.iadd, 1) := by decide +kernel
theorem dl_1082 : decode code 1082 = .ok (.iaload, 1) := by decide +kernel
theorem dl_1083 : decode code 1083 = .ok (.invokevirtual 135, 3) := by decide +kernel
theorem dl_1086 : decode code 1086 = .ok (.if_icmp .eq 285, 3) := by decide +kernel
theorem dl_1089 : decode code 1089 = .ok (.iconst 0, 1) := by decide +kernel
theorem dl_1090 : decode code 1090 = .ok (.ireturn, 1) := by decide +kernel
theorem dl_1091 : decode code 1091 = .ok (.aload_n 1, 1) := by decide +kernel
theorem dl_1092 : decode code 1092 = .ok (.aload_n 0, 1) := by decide +kernel
theorem dl_1093 : decode code 1093 = .ok (.iload_n 3, 1) := by decide +kernel
theorem dl_1094 : decode code 1094 = .ok (.iconst 1, 1) := by decide +kernel
theorem dl_1095 : decode code 1095 = .ok (.iadd, 1) := by decide +kernel
theorem dl_1096 : decode code 1096 = .ok (.iaload, 1) := by decide +kernel
theorem dl_1097 : decode code 1097 = .ok (.aload_n 0, 1) := by decide +kernel
theorem dl_1098 : decode code 1098 = .ok (.iload_n 3, 1) := by decide +kernel
theorem dl_1099 : decode code 1099 = .ok (.iconst 2, 1) := by decide +kernel
theorem dl_1100 : decode code 1100 = .ok (.iadd, 1) := by decide +kernel
theorem dl_1101 : decode code 1101 = .ok (.iaload, 1) := by decide +kernel
theorem dl_1102 : decode code 1102 = .ok (.aload_n 0, 1) := by decide +kernel
theorem dl_1103 : decode code 1103 = .ok (.iload_n 3, 1) := by decide +kernel
theorem dl_1104 : decode code 1104 = .ok (.iconst 3, 1) := by decide +kernel
theorem dl_1105 : decode code 1105 = .ok (.iadd, 1) := by decide +kernel
theorem dl_1106 : decode code 1106 = .ok (.iaload, 1) := by decide +kernel
theorem dl_1107 : decode code 1107 = .ok (.invokevirtual 136, 3) := by decide +kernel
theorem dl_1110 : decode code 1110 = .ok (.aload_n 2, 1) := by decide +kernel
theorem dl_1111 : decode code 1111 = .ok (.aload_n 0, 1) := by decide +kernel
theorem dl_1112 : decode code 1112 = .ok (.iload_n 3, 1) := by decide +kernel
theorem dl_1113 : decode code 1113 = .ok (.iconst 1, 1) := by decide +kernel
theorem dl_1114 : decode code 1114 = .ok (.iadd, 1) := by decide +kernel
theorem dl_1115 : decode code 1115 = .ok (.iaload, 1) := by decide +kernel
theorem dl_1116 : decode code 1116 = .ok (.aload_n 0, 1) := by decide +kernel
theorem dl_1117 : decode code 1117 = .ok (.iload_n 3, 1) := by decide +kernel
theorem dl_1118 : decode code 1118 = .ok (.iconst 2, 1) := by decide +kernel
theorem dl_1119 : decode code 1119 = .ok (.iadd, 1) := by decide +kernel
theorem dl_1120 : decode code 1120 = .ok (.iaload, 1) := by decide +kernel
theorem dl_1121 : decode code 1121 = .ok (.aload_n 0, 1) := by decide +kernel
theorem dl_1122 : decode code 1122 = .ok (.iload_n 3, 1) := by decide +kernel
theorem dl_1123 : decode code 1123 = .ok (.iconst 3, 1) := by decide +kernel
theorem dl_1124 : decode code 1124 = .ok (.iadd, 1) := by decide +kernel
theorem dl_1125 : decode code 1125 = .ok (.iaload, 1) := by decide +kernel
theorem dl_1126 : decode code 1126 = .ok (.invokevirtual 139, 3) := by decide +kernel
theorem dl_1129 : decode code 1129 = .ok (.if_icmp .eq 242, 3) := by decide +kernel
theorem dl_1132 : decode code 1132 = .ok (.iconst 0, 1) := by decide +kernel
theorem dl_1133 : decode code 1133 = .ok (.ireturn, 1) := by decide +kernel
theorem dl_1134 : decode code 1134 = .ok (.aload_n 1, 1) := by decide +kernel
theorem dl_1135 : decode code 1135 = .ok (.aload_n 0, 1) := by decide +kernel
theorem dl_1136 : decode code 1136 = .ok (.iload_n 3, 1) := by decide +kernel
theorem dl_1137 : decode code 1137 = .ok (.iconst 1, 1) := by decide +kernel
theorem dl_1138 : decode code 1138 = .ok (.iadd, 1) := by decide +kernel
theorem dl_1139 : decode code 1139 = .ok (.iaload, 1) := by decide +kernel
theorem dl_1140 : decode code 1140 = .ok (.aload_n 0, 1) := by decide +kernel
theorem dl_1141 : decode code 1141 = .ok (.iload_n 3, 1) := by decide +kernel
theorem dl_1142 : decode code 1142 = .ok (.iconst 2, 1) := by decide +kernel
theorem dl_1143 : decode code 1143 = .ok (.iadd, 1) := by decide +kernel
theorem dl_1144 : decode code 1144 = .ok (.iaload, 1) := by decide +kernel
theorem dl_1145 : decode code 1145 = .ok (.aload_n 0, 1) := by decide +kernel
theorem dl_1146 : decode code 1146 = .ok (.iload_n 3, 1) := by decide +kernel
theorem dl_1147 : decode code 1147 = .ok (.iconst 3, 1) := by decide +kernel
theorem dl_1148 : decode code 1148 = .ok (.iadd, 1) := by decide +kernel
theorem dl_1149 : decode code 1149 = .ok (.iaload, 1) := by decide +kernel
theorem dl_1150 : decode code 1150 = .ok (.aload_n 0, 1) := by decide +kernel
theorem dl_1151 : decode code 1151 = .ok (.iload_n 3, 1) := by decide +kernel
theorem dl_1152 : decode code 1152 = .ok (.iconst 4, 1) := by decide +kernel
theorem dl_1153 : decode code 1153 = .ok (.iadd, 1) := by decide +kernel
theorem dl_1154 : decode code 1154 = .ok (.iaload, 1) := by decide +kernel
theorem dl_1155 : decode code 1155 = .ok (.aload_n 0, 1) := by decide +kernel
theorem dl_1156 : decode code 1156 = .ok (.iload_n 3, 1) := by decide +kernel
theorem dl_1157 : decode code 1157 = .ok (.iconst 5, 1) := by decide +kernel
theorem dl_1158 : decode code 1158 = .ok (.iadd, 1) := by decide +kernel
theorem dl_1159 : decode code 1159 = .ok (.iaload, 1) := by decide +kernel
theorem dl_1160 : decode code 1160 = .ok (.invokevirtual 140, 3) := by decide +kernel
theorem dl_1163 : decode code 1163 = .ok (.aload_n 2, 1) := by decide +kernel
theorem dl_1164 : decode code 1164 = .ok (.aload_n 0, 1) := by decide +kernel
theorem dl_1165 : decode code 1165 = .ok (.iload_n 3, 1) := by decide +kernel
theorem dl_1166 : decode code 1166 = .ok (.iconst 1, 1) := by decide +kernel
theorem dl_1167 : decode code 1167 = .ok (.iadd, 1) := by decide +kernel
theorem dl_1168 : decode code 1168 = .ok (.iaload, 1) := by decide +kernel
theorem dl_1169 : decode code 1169 = .ok (.aload_n 0, 1) := by decide +kernel
theorem dl_1170 : decode code 1170 = .ok (.iload_n 3, 1) := by decide +kernel
theorem dl_1171 : decode code 1171 = .ok (.iconst 2, 1) := by decide +kernel
theorem dl_1172 : decode code 1172 = .ok (.iadd, 1) := by decide +kernel
theorem dl_1173 : decode code 1173 = .ok (.iaload, 1) := by decide +kernel
theorem dl_1174 : decode code 1174 = .ok (.aload_n 0, 1) := by decide +kernel
theorem dl_1175 : decode code 1175 = .ok (.iload_n 3, 1) := by decide +kernel
theorem dl_1176 : decode code 1176 = .ok (.iconst 3, 1) := by decide +kernel
theorem dl_1177 : decode code 1177 = .ok (.iadd, 1) := by decide +kernel
theorem dl_1178 : decode code 1178 = .ok (.iaload, 1) := by decide +kernel
theorem dl_1179 : decode code 1179 = .ok (.aload_n 0, 1) := by decide +kernel
theorem dl_1180 : decode code 1180 = .ok (.iload_n 3, 1) := by decide +kernel
theorem dl_1181 : decode code 1181 = .ok (.iconst 4, 1) := by decide +kernel
theorem dl_1182 : decode code 1182 = .ok (.iadd, 1) := by decide +kernel
theorem dl_1183 : decode code 1183 = .ok (.iaload, 1) := by decide +kernel
theorem dl_1184 : decode code 1184 = .ok (.aload_n 0, 1) := by decide +kernel
theorem dl_1185 : decode code 1185 = .ok (.iload_n 3, 1) := by decide +kernel
theorem dl_1186 : decode code 1186 = .ok (.iconst 5, 1) := by decide +kernel
theorem dl_1187 : decode code 1187 = .ok (.iadd, 1) := by decide +kernel
theorem dl_1188 : decode code 1188 = .ok (.iaload, 1) := by decide +kernel
theorem dl_1189 : decode code 1189 = .ok (.invokevirtual 144, 3) := by decide +kernel
theorem dl_1192 : decode code 1192 = .ok (.if_icmp .eq 179, 3) := by decide +kernel
theorem dl_1195 : decode code 1195 = .ok (.iconst 0, 1) := by decide +kernel
theorem dl_1196 : decode code 1196 = .ok (.ireturn, 1) := by decide +kernel
theorem dl_1197 : decode code 1197 = .ok (.aload_n 1, 1) := by decide +kernel
theorem dl_1198 : decode code 1198 = .ok (.aload_n 0, 1) := by decide +kernel
theorem dl_1199 : decode code 1199 = .ok (.iload_n 3, 1) := by decide +kernel
theorem dl_1200 : decode code 1200 = .ok (.iconst 1, 1) := by decide +kernel
theorem dl_1201 : decode code 1201 = .ok (.iadd, 1) := by decide +kernel
theorem dl_1202 : decode code 1202 = .ok (.iaload, 1) := by decide +kernel
theorem dl_1203 : decode code 1203 = .ok (.invokevirtual 145, 3) := by decide +kernel
theorem dl_1206 : decode code 1206 = .ok (.aload_n 2, 1) := by decide +kernel
theorem dl_1207 : decode code 1207 = .ok (.aload_n 0, 1) := by decide +kernel
theorem dl_1208 : decode code 1208 = .ok (.iload_n 3, 1) := by decide +kernel
theorem dl_1209 : decode code 1209 = .ok (.iconst 1, 1) := by decide +kernel
theorem dl_1210 : decode code 1210 = .ok (.iadd, 1) := by decide +kernel
theorem dl_1211 : decode code 1211 = .ok (.iaload, 1) := by decide +kernel
theorem dl_1212 : decode code 1212 = .ok (.invokevirtual 148, 3) := by decide +kernel
theorem dl_1215 : decode code 1215 = .ok (.if_icmp .eq 156, 3) := by decide +kernel
theorem dl_1218 : decode code 1218 = .ok (.iconst 0, 1) := by decide +kernel
theorem dl_1219 : decode code 1219 = .ok (.ireturn, 1) := by decide +kernel
theorem dl_1220 : decode code 1220 = .ok (.aload_n 1, 1) := by decide +kernel
theorem dl_1221 : decode code 1221 = .ok (.aload_n 0, 1) := by decide +kernel
theorem dl_1222 : decode code 1222 = .ok (.iload_n 3, 1) := by decide +kernel
theorem dl_1223 : decode code 1223 = .ok (.iconst 1, 1) := by decide +kernel
theorem dl_1224 : decode code 1224 = .ok (.iadd, 1) := by decide +kernel
theorem dl_1225 : decode code 1225 = .ok (.iaload, 1) := by decide +kernel
theorem dl_1226 : decode code 1226 = .ok (.aload_n 0, 1) := by decide +kernel
theorem dl_1227 : decode code 1227 = .ok (.iload_n 3, 1) := by decide +kernel
theorem dl_1228 : decode code 1228 = .ok (.iconst 2, 1) := by decide +kernel
theorem dl_1229 : decode code 1229 = .ok (.iadd, 1) := by decide +kernel
theorem dl_1230 : decode code 1230 = .ok (.iaload, 1) := by decide +kernel
theorem dl_1231 : decode code 1231 = .ok (.invokevirtual 149, 3) := by decide +kernel
theorem dl_1234 : decode code 1234 = .ok (.aload_n 2, 1) := by decide +kernel
theorem dl_1235 : decode code 1235 = .ok (.aload_n 0, 1) := by decide +kernel
theorem dl_1236 : decode code 1236 = .ok (.iload_n 3, 1) := by decide +kernel
theorem dl_1237 : decode code 1237 = .ok (.iconst 1, 1) := by decide +kernel
theorem dl_1238 : decode code 1238 = .ok (.iadd, 1) := by decide +kernel
theorem dl_1239 : decode code 1239 = .ok (.iaload, 1) := by decide +kernel
theorem dl_1240 : decode code 1240 = .ok (.aload_n 0, 1) := by decide +kernel
theorem dl_1241 : decode code 1241 = .ok (.iload_n 3, 1) := by decide +kernel
theorem dl_1242 : decode code 1242 = .ok (.iconst 2, 1) := by decide +kernel
theorem dl_1243 : decode code 1243 = .ok (.iadd, 1) := by decide +kernel
theorem dl_1244 : decode code 1244 = .ok (.iaload, 1) := by decide +kernel
theorem dl_1245 : decode code 1245 = .ok (.invokevirtual 152, 3) := by decide +kernel
theorem dl_1248 : decode code 1248 = .ok (.if_icmp .eq 123, 3) := by decide +kernel
theorem dl_1251 : decode code 1251 = .ok (.iconst 0, 1) := by decide +kernel
theorem dl_1252 : decode code 1252 = .ok (.ireturn, 1) := by decide +kernel
theorem dl_1253 : decode code 1253 = .ok (.aload_n 1, 1) := by decide +kernel
theorem dl_1254 : decode code 1254 = .ok (.invokevirtual 153, 3) := by decide +kernel
theorem dl_1257 : decode code 1257 = .ok (.aload_n 2, 1) := by decide +kernel
theorem dl_1258 : decode code 1258 = .ok (.invokevirtual 156, 3) := by decide +kernel
theorem dl_1261 : decode code 1261 = .ok (.if_icmp .eq 110, 3) := by decide +kernel
theorem dl_1264 : decode code 1264 = .ok (.iconst 0, 1) := by decide +kernel
theorem dl_1265 : decode code 1265 = .ok (.ireturn, 1) := by decide +kernel
theorem dl_1266 : decode code 1266 = .ok (.aload_n 1, 1) := by decide +kernel
theorem dl_1267 : decode code 1267 = .ok (.invokevirtual 157, 3) := by decide +kernel
theorem dl_1270 : decode code 1270 = .ok (.aload_n 2, 1) := by decide +kernel
theorem dl_1271 : decode code 1271 = .ok (.invokevirtual 160, 3) := by decide +kernel
theorem dl_1274 : decode code 1274 = .ok (.if_icmp .eq 97, 3) := by decide +kernel
theorem dl_1277 : decode code 1277 = .ok (.iconst 0, 1) := by decide +kernel
theorem dl_1278 : decode code 1278 = .ok (.ireturn, 1) := by decide +kernel
theorem dl_1279 : decode code 1279 = .ok (.aload_n 1, 1) := by decide +kernel
theorem dl_1280 : decode code 1280 = .ok (.aload_n 0, 1) := by decide +kernel
theorem dl_1281 : decode code 1281 = .ok (.iload_n 3, 1) := by decide +kernel
theorem dl_1282 : decode code 1282 = .ok (.iconst 1, 1) := by decide +kernel
theorem dl_1283 : decode code 1283 = .ok (.iadd, 1) := by decide +kernel
theorem dl_1284 : decode code 1284 = .ok (.iaload, 1) := by decide +kernel
theorem dl_1285 : decode code 1285 = .ok (.invokevirtual 161, 3) := by decide +kernel
theorem dl_1288 : decode code 1288 = .ok (.aload_n 2, 1) := by decide +kernel
theorem dl_1289 : decode code 1289 = .ok (.aload_n 0, 1) := by decide +kernel
theorem dl_1290 : decode code 1290 = .ok (.iload_n 3, 1) := by decide +kernel
theorem dl_1291 : decode code 1291 = .ok (.iconst 1, 1) := by decide +kernel
theorem dl_1292 : decode code 1292 = .ok (.iadd, 1) := by decide +kernel
theorem dl_1293 : decode code 1293 = .ok (.iaload, 1) := by decide +kernel
theorem dl_1294 : decode code 1294 = .ok (.invokevirtual 164, 3) := by decide +kernel
theorem dl_1297 : decode code 1297 = .ok (.if_icmp .eq 74, 3) := by decide +kernel
theorem dl_1300 : decode code 1300 = .ok (.iconst 0, 1) := by decide +kernel
theorem dl_1301 : decode code 1301 = .ok (.ireturn, 1) := by decide +kernel
theorem dl_1302 : decode code 1302 = .ok (.aload_n 1, 1) := by decide +kernel
theorem dl_1303 : decode code 1303 = .ok (.aload_n 0, 1) := by decide +kernel
theorem dl_1304 : decode code 1304 = .ok (.iload_n 3, 1) := by decide +kernel
theorem dl_1305 : decode code 1305 = .ok (.iconst 1, 1) := by decide +kernel
theorem dl_1306 : decode code 1306 = .ok (.iadd, 1) := by decide +kernel
theorem dl_1307 : decode code 1307 = .ok (.iaload, 1) := by decide +kernel
theorem dl_1308 : decode code 1308 = .ok (.invokevirtual 165, 3) := by decide +kernel
theorem dl_1311 : decode code 1311 = .ok (.aload_n 2, 1) := by decide +kernel
theorem dl_1312 : decode code 1312 = .ok (.aload_n 0, 1) := by decide +kernel
theorem dl_1313 : decode code 1313 = .ok (.iload_n 3, 1) := by decide +kernel
theorem dl_1314 : decode code 1314 = .ok (.iconst 1, 1) := by decide +kernel
theorem dl_1315 : decode code 1315 = .ok (.iadd, 1) := by decide +kernel
theorem dl_1316 : decode code 1316 = .ok (.iaload, 1) := by decide +kernel
theorem dl_1317 : decode code 1317 = .ok (.invokevirtual 168, 3) := by decide +kernel
theorem dl_1320 : decode code 1320 = .ok (.if_icmp .eq 51, 3) := by decide +kernel
theorem dl_1323 : decode code 1323 = .ok (.iconst 0, 1) := by decide +kernel
theorem dl_1324 : decode code 1324 = .ok (.ireturn, 1) := by decide +kernel
theorem dl_1325 : decode code 1325 = .ok (.aload_n 1, 1) := by decide +kernel
theorem dl_1326 : decode code 1326 = .ok (.aload_n 0, 1) := by decide +kernel
theorem dl_1327 : decode code 1327 = .ok (.iload_n 3, 1) := by decide +kernel
theorem dl_1328 : decode code 1328 = .ok (.iconst 1, 1) := by decide +kernel
theorem dl_1329 : decode code 1329 = .ok (.iadd, 1) := by decide +kernel
theorem dl_1330 : decode code 1330 = .ok (.iaload, 1) := by decide +kernel
theorem dl_1331 : decode code 1331 = .ok (.invokevirtual 169, 3) := by decide +kernel
theorem dl_1334 : decode code 1334 = .ok (.aload_n 2, 1) := by decide +kernel
theorem dl_1335 : decode code 1335 = .ok (.aload_n 0, 1) := by decide +kernel
theorem dl_1336 : decode code 1336 = .ok (.iload_n 3, 1) := by decide +kernel
theorem dl_1337 : decode code 1337 = .ok (.iconst 1, 1) := by decide +kernel
theorem dl_1338 : decode code 1338 = .ok (.iadd, 1) := by decide +kernel
theorem dl_1339 : decode code 1339 = .ok (.iaload, 1) := by decide +kernel
theorem dl_1340 : decode code 1340 = .ok (.invokevirtual 172, 3) := by decide +kernel
theorem dl_1343 : decode code 1343 = .ok (.if_icmp .eq 28, 3) := by decide +kernel
theorem dl_1346 : decode code 1346 = .ok (.iconst 0, 1) := by decide +kernel
theorem dl_1347 : decode code 1347 = .ok (.ireturn, 1) := by decide +kernel
theorem dl_1348 : decode code 1348 = .ok (.aload_n 1, 1) := by decide +kernel
theorem dl_1349 : decode code 1349 = .ok (.aload_n 0, 1) := by decide +kernel
theorem dl_1350 : decode code 1350 = .ok (.iload_n 3, 1) := by decide +kernel
theorem dl_1351 : decode code 1351 = .ok (.iconst 1, 1) := by decide +kernel
theorem dl_1352 : decode code 1352 = .ok (.iadd, 1) := by decide +kernel
theorem dl_1353 : decode code 1353 = .ok (.iaload, 1) := by decide +kernel
theorem dl_1354 : decode code 1354 = .ok (.invokevirtual 173, 3) := by decide +kernel
theorem dl_1357 : decode code 1357 = .ok (.aload_n 2, 1) := by decide +kernel
theorem dl_1358 : decode code 1358 = .ok (.aload_n 0, 1) := by decide +kernel
theorem dl_1359 : decode code 1359 = .ok (.iload_n 3, 1) := by decide +kernel
theorem dl_1360 : decode code 1360 = .ok (.iconst 1, 1) := by decide +kernel
theorem dl_1361 : decode code 1361 = .ok (.iadd, 1) := by decide +kernel
theorem dl_1362 : decode code 1362 = .ok (.iaload, 1) := by decide +kernel
theorem dl_1363 : decode code 1363 = .ok (.invokevirtual 176, 3) := by decide +kernel
theorem dl_1366 : decode code 1366 = .ok (.if_icmp .eq 5, 3) := by decide +kernel
theorem dl_1369 : decode code 1369 = .ok (.iconst 0, 1) := by decide +kernel
theorem dl_1370 : decode code 1370 = .ok (.ireturn, 1) := by decide +kernel
theorem dl_1371 : decode code 1371 = .ok (.iinc 3 6, 3) := by decide +kernel
theorem dl_1374 : decode code 1374 = .ok (.goto (-1356), 3) := by decide +kernel
theorem dl_1377 : decode code 1377 = .ok (.iconst 1, 1) := by decide +kernel
theorem dl_1378 : decode code 1378 = .ok (.ireturn, 1) := by decide +kernel
