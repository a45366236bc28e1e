/-! what the bytes of the law say -/
theorem dL_law_1097 : decode cL_law 1097 = .ok (.if_icmp .ne 54, 3) := by decide +kernel
theorem dL_law_1100 : decode cL_law 1100 = .ok (.aload 6, 2) := by decide +kernel
theorem dL_law_1102 : decode cL_law 1102 = .ok (.iconst 1, 1) := by decide +kernel
theorem dL_law_1103 : decode cL_law 1103 = .ok (.invokevirtual 81, 3) := by decide +kernel
theorem dL_law_1106 : decode cL_law 1106 = .ok (.iconst 1, 1) := by decide +kernel
theorem dL_law_1107 : decode cL_law 1107 = .ok (.if_icmp .ne 44, 3) := by decide +kernel
theorem dL_law_1110 : decode cL_law 1110 = .ok (.aload 6, 2) := by decide +kernel
theorem dL_law_1112 : decode cL_law 1112 = .ok (.invokevirtual 163, 3) := by decide +kernel
theorem dL_law_1115 : decode cL_law 1115 = .ok (.ifCond .ne 36, 3) := by decide +kernel
theorem dL_law_1118 : decode cL_law 1118 = .ok (.aload 6, 2) := by decide +kernel
theorem dL_law_1120 : decode cL_law 1120 = .ok (.invokevirtual 132, 3) := by decide +kernel
theorem dL_law_1123 : decode cL_law 1123 = .ok (.iconst 4, 1) := by decide +kernel
theorem dL_law_1124 : decode cL_law 1124 = .ok (.if_icmp .ne 27, 3) := by decide +kernel
theorem dL_law_1127 : decode cL_law 1127 = .ok (.aload 6, 2) := by decide +kernel
theorem dL_law_1129 : decode cL_law 1129 = .ok (.bipush 11, 2) := by decide +kernel
theorem dL_law_1131 : decode cL_law 1131 = .ok (.invokevirtual 160, 3) := by decide +kernel
theorem dL_law_1134 : decode cL_law 1134 = .ok (.iconst 4, 1) := by decide +kernel
theorem dL_law_1135 : decode cL_law 1135 = .ok (.if_icmp .ne 16, 3) := by decide +kernel
theorem dL_law_1138 : decode cL_law 1138 = .ok (.aload 6, 2) := by decide +kernel
theorem dL_law_1140 : decode cL_law 1140 = .ok (.iconst 5, 1) := by decide +kernel
theorem dL_law_1141 : decode cL_law 1141 = .ok (.iconst 0, 1) := by decide +kernel
theorem dL_law_1142 : decode cL_law 1142 = .ok (.iconst 0, 1) := by decide +kernel
theorem dL_law_1143 : decode cL_law 1143 = .ok (.invokestatic 33, 3) := by decide +kernel
theorem dL_law_1146 : decode cL_law 1146 = .ok (.ldc 59, 2) := by decide +kernel
theorem dL_law_1148 : decode cL_law 1148 = .ok (.if_icmp .eq 5, 3) := by decide +kernel
theorem dL_law_1151 : decode cL_law 1151 = .ok (.iconst 0, 1) := by decide +kernel
theorem dL_law_1152 : decode cL_law 1152 = .ok (.ireturn, 1) := by decide +kernel
theorem dL_law_1153 : decode cL_law 1153 = .ok (.aload 6, 2) := by decide +kernel
theorem dL_law_1155 : decode cL_law 1155 = .ok (.invokevirtual 97, 3) := by decide +kernel
theorem dL_law_1158 : decode cL_law 1158 = .ok (.sipush 210, 3) := by decide +kernel
theorem dL_law_1161 : decode cL_law 1161 = .ok (.iconst 2, 1) := by decide +kernel
theorem dL_law_1162 : decode cL_law 1162 = .ok (.iload 5, 2) := by decide +kernel
theorem dL_law_1164 : decode cL_law 1164 = .ok (.imul, 1) := by decide +kernel
theorem dL_law_1165 : decode cL_law 1165 = .ok (.isub, 1) := by decide +kernel
theorem dL_law_1166 : decode cL_law 1166 = .ok (.if_icmp .ne 99, 3) := by decide +kernel
theorem dL_law_1169 : decode cL_law 1169 = .ok (.aload 6, 2) := by decide +kernel
theorem dL_law_1171 : decode cL_law 1171 = .ok (.invokevirtual 257, 3) := by decide +kernel
theorem dL_law_1174 : decode cL_law 1174 = .ok (.lconst 0, 1) := by decide +kernel
theorem dL_law_1175 : decode cL_law 1175 = .ok (.lcmp, 1) := by decide +kernel
theorem dL_law_1176 : decode cL_law 1176 = .ok (.ifCond .ne 89, 3) := by decide +kernel
theorem dL_law_1179 : decode cL_law 1179 = .ok (.aload 6, 2) := by decide +kernel
theorem dL_law_1181 : decode cL_law 1181 = .ok (.iconst 3, 1) := by decide +kernel
theorem dL_law_1182 : decode cL_law 1182 = .ok (.invokevirtual 241, 3) := by decide +kernel
theorem dL_law_1185 : decode cL_law 1185 = .ok (.ldc2_w 313, 3) := by decide +kernel
theorem dL_law_1188 : decode cL_law 1188 = .ok (.iconst 2, 1) := by decide +kernel
theorem dL_law_1189 : decode cL_law 1189 = .ok (.iload 5, 2) := by decide +kernel
theorem dL_law_1191 : decode cL_law 1191 = .ok (.imul, 1) := by decide +kernel
theorem dL_law_1192 : decode cL_law 1192 = .ok (.i2l, 1) := by decide +kernel
theorem dL_law_1193 : decode cL_law 1193 = .ok (.lsub, 1) := by decide +kernel
theorem dL_law_1194 : decode cL_law 1194 = .ok (.lcmp, 1) := by decide +kernel
theorem dL_law_1195 : decode cL_law 1195 = .ok (.ifCond .ne 70, 3) := by decide +kernel
theorem dL_law_1198 : decode cL_law 1198 = .ok (.aload 6, 2) := by decide +kernel
theorem dL_law_1200 : decode cL_law 1200 = .ok (.iconst 4, 1) := by decide +kernel
theorem dL_law_1201 : decode cL_law 1201 = .ok (.invokevirtual 241, 3) := by decide +kernel
theorem dL_law_1204 : decode cL_law 1204 = .ok (.lconst 0, 1) := by decide +kernel
theorem dL_law_1205 : decode cL_law 1205 = .ok (.lcmp, 1) := by decide +kernel
theorem dL_law_1206 : decode cL_law 1206 = .ok (.ifCond .ne 59, 3) := by decide +kernel
theorem dL_law_1209 : decode cL_law 1209 = .ok (.aload 6, 2) := by decide +kernel
theorem dL_law_1211 : decode cL_law 1211 = .ok (.invokevirtual 135, 3) := by decide +kernel
theorem dL_law_1214 : decode cL_law 1214 = .ok (.iconst 1, 1) := by decide +kernel
theorem dL_law_1215 : decode cL_law 1215 = .ok (.if_icmp .ne 50, 3) := by decide +kernel
theorem dL_law_1218 : decode cL_law 1218 = .ok (.aload 6, 2) := by decide +kernel
theorem dL_law_1220 : decode cL_law 1220 = .ok (.invokevirtual 199, 3) := by decide +kernel
theorem dL_law_1223 : decode cL_law 1223 = .ok (.ifCond .lt 42, 3) := by decide +kernel
theorem dL_law_1226 : decode cL_law 1226 = .ok (.aload 6, 2) := by decide +kernel
theorem dL_law_1228 : decode cL_law 1228 = .ok (.invokevirtual 257, 3) := by decide +kernel
theorem dL_law_1231 : decode cL_law 1231 = .ok (.ldc2_w 272, 3) := by decide +kernel
theorem dL_law_1234 : decode cL_law 1234 = .ok (.iconst 2, 1) := by decide +kernel
theorem dL_law_1235 : decode cL_law 1235 = .ok (.iload 5, 2) := by decide +kernel
theorem dL_law_1237 : decode cL_law 1237 = .ok (.imul, 1) := by decide +kernel
theorem dL_law_1238 : decode cL_law 1238 = .ok (.i2l, 1) := by decide +kernel
theorem dL_law_1239 : decode cL_law 1239 = .ok (.lsub, 1) := by decide +kernel
theorem dL_law_1240 : decode cL_law 1240 = .ok (.lcmp, 1) := by decide +kernel
theorem dL_law_1241 : decode cL_law 1241 = .ok (.ifCond .ne 24, 3) := by decide +kernel
theorem dL_law_1244 : decode cL_law 1244 = .ok (.aload 6, 2) := by decide +kernel
theorem dL_law_1246 : decode cL_law 1246 = .ok (.iconst 3, 1) := by decide +kernel
theorem dL_law_1247 : decode cL_law 1247 = .ok (.invokevirtual 241, 3) := by decide +kernel
theorem dL_law_1250 : decode cL_law 1250 = .ok (.ldc2_w 244, 3) := by decide +kernel
theorem dL_law_1253 : decode cL_law 1253 = .ok (.lcmp, 1) := by decide +kernel
theorem dL_law_1254 : decode cL_law 1254 = .ok (.ifCond .ne 11, 3) := by decide +kernel
theorem dL_law_1257 : decode cL_law 1257 = .ok (.aload 6, 2) := by decide +kernel
theorem dL_law_1259 : decode cL_law 1259 = .ok (.invokevirtual 135, 3) := by decide +kernel
theorem dL_law_1262 : decode cL_law 1262 = .ok (.ifCond .eq 5, 3) := by decide +kernel
theorem dL_law_1265 : decode cL_law 1265 = .ok (.iconst 0, 1) := by decide +kernel
theorem dL_law_1266 : decode cL_law 1266 = .ok (.ireturn, 1) := by decide +kernel
theorem dL_law_1267 : decode cL_law 1267 = .ok (.aload 6, 2) := by decide +kernel
theorem dL_law_1269 : decode cL_law 1269 = .ok (.iconst 0, 1) := by decide +kernel
theorem dL_law_1270 : decode cL_law 1270 = .ok (.invokevirtual 72, 3) := by decide +kernel
theorem dL_law_1273 : decode cL_law 1273 = .ok (.bipush 6, 2) := by decide +kernel
theorem dL_law_1275 : decode cL_law 1275 = .ok (.if_icmp .ne 190, 3) := by decide +kernel
theorem dL_law_1278 : decode cL_law 1278 = .ok (.aload 6, 2) := by decide +kernel
theorem dL_law_1280 : decode cL_law 1280 = .ok (.bipush 6, 2) := by decide +kernel
theorem dL_law_1282 : decode cL_law 1282 = .ok (.invokevirtual 72, 3) := by decide +kernel
theorem dL_law_1285 : decode cL_law 1285 = .ok (.bipush 7, 2) := by decide +kernel
theorem dL_law_1287 : decode cL_law 1287 = .ok (.if_icmp .ne 178, 3) := by decide +kernel
theorem dL_law_1290 : decode cL_law 1290 = .ok (.aload 6, 2) := by decide +kernel
theorem dL_law_1292 : decode cL_law 1292 = .ok (.bipush 7, 2) := by decide +kernel
theorem dL_law_1294 : decode cL_law 1294 = .ok (.invokevirtual 100, 3) := by decide +kernel
theorem dL_law_1297 : decode cL_law 1297 = .ok (.bipush 6, 2) := by decide +kernel
theorem dL_law_1299 : decode cL_law 1299 = .ok (.if_icmp .ne 166, 3) := by decide +kernel
theorem dL_law_1302 : decode cL_law 1302 = .ok (.aload 6, 2) := by decide +kernel
theorem dL_law_1304 : decode cL_law 1304 = .ok (.bipush 7, 2) := by decide +kernel
theorem dL_law_1306 : decode cL_law 1306 = .ok (.invokevirtual 144, 3) := by decide +kernel
theorem dL_law_1309 : decode cL_law 1309 = .ok (.bipush 97, 2) := by decide +kernel
theorem dL_law_1311 : decode cL_law 1311 = .ok (.if_icmp .ne 154, 3) := by decide +kernel
theorem dL_law_1314 : decode cL_law 1314 = .ok (.aload 6, 2) := by decide +kernel
theorem dL_law_1316 : decode cL_law 1316 = .ok (.bipush 12, 2) := by decide +kernel
theorem dL_law_1318 : decode cL_law 1318 = .ok (.iconst 0, 1) := by decide +kernel
theorem dL_law_1319 : decode cL_law 1319 = .ok (.iconst 0, 1) := by decide +kernel
theorem dL_law_1320 : decode cL_law 1320 = .ok (.invokestatic 33, 3) := by decide +kernel
theorem dL_law_1323 : decode cL_law 1323 = .ok (.ldc 131, 2) := by decide +kernel
theorem dL_law_1325 : decode cL_law 1325 = .ok (.if_icmp .ne 140, 3) := by decide +kernel
theorem dL_law_1328 : decode cL_law 1328 = .ok (.aload 6, 2) := by decide +kernel
theorem dL_law_1330 : decode cL_law 1330 = .ok (.iconst 0, 1) := by decide +kernel
theorem dL_law_1331 : decode cL_law 1331 = .ok (.invokevirtual 250, 3) := by decide +kernel
theorem dL_law_1334 : decode cL_law 1334 = .ok (.iconst 3, 1) := by decide +kernel
theorem dL_law_1335 : decode cL_law 1335 = .ok (.if_icmp .ne 130, 3) := by decide +kernel
theorem dL_law_1338 : decode cL_law 1338 = .ok (.aload 6, 2) := by decide +kernel
theorem dL_law_1340 : decode cL_law 1340 = .ok (.bipush 6, 2) := by decide +kernel
theorem dL_law_1342 : decode cL_law 1342 = .ok (.invokevirtual 250, 3) := by decide +kernel
theorem dL_law_1345 : decode cL_law 1345 = .ok (.iconst 2, 1) := by decide +kernel
theorem dL_law_1346 : decode cL_law 1346 = .ok (.if_icmp .ne 119, 3) := by decide +kernel
theorem dL_law_1349 : decode cL_law 1349 = .ok (.aload 6, 2) := by decide +kernel
theorem dL_law_1351 : decode cL_law 1351 = .ok (.bipush 7, 2) := by decide +kernel
theorem dL_law_1353 : decode cL_law 1353 = .ok (.iconst 0, 1) := by decide +kernel
theorem dL_law_1354 : decode cL_law 1354 = .ok (.bipush 90, 2) := by decide +kernel
theorem dL_law_1356 : decode cL_law 1356 = .ok (.invokevirtual 53, 3) := by decide +kernel
theorem dL_law_1359 : decode cL_law 1359 = .ok (.bipush 12, 2) := by decide +kernel
theorem dL_law_1361 : decode cL_law 1361 = .ok (.if_icmp .ne 104, 3) := by decide +kernel
theorem dL_law_1364 : decode cL_law 1364 = .ok (.aload 6, 2) := by decide +kernel
