/-! THE LAW: its bytes, read -/
theorem d_Law_law_1138 : decode M_Law_law.2.1 1138 = .ok (.aload_n 0, 1) := by decide +kernel
theorem d_Law_law_1139 : decode M_Law_law.2.1 1139 = .ok (.iload_n 3, 1) := by decide +kernel
theorem d_Law_law_1140 : decode M_Law_law.2.1 1140 = .ok (.iconst 2, 1) := by decide +kernel
theorem d_Law_law_1141 : decode M_Law_law.2.1 1141 = .ok (.iadd, 1) := by decide +kernel
theorem d_Law_law_1142 : decode M_Law_law.2.1 1142 = .ok (.iaload, 1) := by decide +kernel
theorem d_Law_law_1143 : decode M_Law_law.2.1 1143 = .ok (.aload_n 0, 1) := by decide +kernel
theorem d_Law_law_1144 : decode M_Law_law.2.1 1144 = .ok (.iload_n 3, 1) := by decide +kernel
theorem d_Law_law_1145 : decode M_Law_law.2.1 1145 = .ok (.iconst 3, 1) := by decide +kernel
theorem d_Law_law_1146 : decode M_Law_law.2.1 1146 = .ok (.iadd, 1) := by decide +kernel
theorem d_Law_law_1147 : decode M_Law_law.2.1 1147 = .ok (.iaload, 1) := by decide +kernel
theorem d_Law_law_1148 : decode M_Law_law.2.1 1148 = .ok (.i2l, 1) := by decide +kernel
theorem d_Law_law_1149 : decode M_Law_law.2.1 1149 = .ok (.bipush 32, 2) := by decide +kernel
theorem d_Law_law_1151 : decode M_Law_law.2.1 1151 = .ok (.lshl, 1) := by decide +kernel
theorem d_Law_law_1152 : decode M_Law_law.2.1 1152 = .ok (.aload_n 0, 1) := by decide +kernel
theorem d_Law_law_1153 : decode M_Law_law.2.1 1153 = .ok (.iload_n 3, 1) := by decide +kernel
theorem d_Law_law_1154 : decode M_Law_law.2.1 1154 = .ok (.iconst 4, 1) := by decide +kernel
theorem d_Law_law_1155 : decode M_Law_law.2.1 1155 = .ok (.iadd, 1) := by decide +kernel
theorem d_Law_law_1156 : decode M_Law_law.2.1 1156 = .ok (.iaload, 1) := by decide +kernel
theorem d_Law_law_1157 : decode M_Law_law.2.1 1157 = .ok (.i2l, 1) := by decide +kernel
theorem d_Law_law_1158 : decode M_Law_law.2.1 1158 = .ok (.ldc2_w 140, 3) := by decide +kernel
theorem d_Law_law_1161 : decode M_Law_law.2.1 1161 = .ok (.land, 1) := by decide +kernel
theorem d_Law_law_1162 : decode M_Law_law.2.1 1162 = .ok (.lor, 1) := by decide +kernel
theorem d_Law_law_1163 : decode M_Law_law.2.1 1163 = .ok (.invokevirtual 142, 3) := by decide +kernel
theorem d_Law_law_1166 : decode M_Law_law.2.1 1166 = .ok (.aload_n 2, 1) := by decide +kernel
theorem d_Law_law_1167 : decode M_Law_law.2.1 1167 = .ok (.aload_n 0, 1) := by decide +kernel
theorem d_Law_law_1168 : decode M_Law_law.2.1 1168 = .ok (.iload_n 3, 1) := by decide +kernel
theorem d_Law_law_1169 : decode M_Law_law.2.1 1169 = .ok (.iconst 1, 1) := by decide +kernel
theorem d_Law_law_1170 : decode M_Law_law.2.1 1170 = .ok (.iadd, 1) := by decide +kernel
theorem d_Law_law_1171 : decode M_Law_law.2.1 1171 = .ok (.iaload, 1) := by decide +kernel
theorem d_Law_law_1172 : decode M_Law_law.2.1 1172 = .ok (.aload_n 0, 1) := by decide +kernel
theorem d_Law_law_1173 : decode M_Law_law.2.1 1173 = .ok (.iload_n 3, 1) := by decide +kernel
theorem d_Law_law_1174 : decode M_Law_law.2.1 1174 = .ok (.iconst 2, 1) := by decide +kernel
theorem d_Law_law_1175 : decode M_Law_law.2.1 1175 = .ok (.iadd, 1) := by decide +kernel
theorem d_Law_law_1176 : decode M_Law_law.2.1 1176 = .ok (.iaload, 1) := by decide +kernel
theorem d_Law_law_1177 : decode M_Law_law.2.1 1177 = .ok (.aload_n 0, 1) := by decide +kernel
theorem d_Law_law_1178 : decode M_Law_law.2.1 1178 = .ok (.iload_n 3, 1) := by decide +kernel
theorem d_Law_law_1179 : decode M_Law_law.2.1 1179 = .ok (.iconst 3, 1) := by decide +kernel
theorem d_Law_law_1180 : decode M_Law_law.2.1 1180 = .ok (.iadd, 1) := by decide +kernel
theorem d_Law_law_1181 : decode M_Law_law.2.1 1181 = .ok (.iaload, 1) := by decide +kernel
theorem d_Law_law_1182 : decode M_Law_law.2.1 1182 = .ok (.i2l, 1) := by decide +kernel
theorem d_Law_law_1183 : decode M_Law_law.2.1 1183 = .ok (.bipush 32, 2) := by decide +kernel
theorem d_Law_law_1185 : decode M_Law_law.2.1 1185 = .ok (.lshl, 1) := by decide +kernel
theorem d_Law_law_1186 : decode M_Law_law.2.1 1186 = .ok (.aload_n 0, 1) := by decide +kernel
theorem d_Law_law_1187 : decode M_Law_law.2.1 1187 = .ok (.iload_n 3, 1) := by decide +kernel
theorem d_Law_law_1188 : decode M_Law_law.2.1 1188 = .ok (.iconst 4, 1) := by decide +kernel
theorem d_Law_law_1189 : decode M_Law_law.2.1 1189 = .ok (.iadd, 1) := by decide +kernel
theorem d_Law_law_1190 : decode M_Law_law.2.1 1190 = .ok (.iaload, 1) := by decide +kernel
theorem d_Law_law_1191 : decode M_Law_law.2.1 1191 = .ok (.i2l, 1) := by decide +kernel
theorem d_Law_law_1192 : decode M_Law_law.2.1 1192 = .ok (.ldc2_w 140, 3) := by decide +kernel
theorem d_Law_law_1195 : decode M_Law_law.2.1 1195 = .ok (.land, 1) := by decide +kernel
theorem d_Law_law_1196 : decode M_Law_law.2.1 1196 = .ok (.lor, 1) := by decide +kernel
theorem d_Law_law_1197 : decode M_Law_law.2.1 1197 = .ok (.invokevirtual 146, 3) := by decide +kernel
theorem d_Law_law_1200 : decode M_Law_law.2.1 1200 = .ok (.if_icmp .eq 102, 3) := by decide +kernel
theorem d_Law_law_1203 : decode M_Law_law.2.1 1203 = .ok (.iconst 0, 1) := by decide +kernel
theorem d_Law_law_1204 : decode M_Law_law.2.1 1204 = .ok (.ireturn, 1) := by decide +kernel
theorem d_Law_law_1205 : decode M_Law_law.2.1 1205 = .ok (.aload_n 1, 1) := by decide +kernel
theorem d_Law_law_1206 : decode M_Law_law.2.1 1206 = .ok (.aload_n 0, 1) := by decide +kernel
theorem d_Law_law_1207 : decode M_Law_law.2.1 1207 = .ok (.iload_n 3, 1) := by decide +kernel
theorem d_Law_law_1208 : decode M_Law_law.2.1 1208 = .ok (.iconst 1, 1) := by decide +kernel
theorem d_Law_law_1209 : decode M_Law_law.2.1 1209 = .ok (.iadd, 1) := by decide +kernel
theorem d_Law_law_1210 : decode M_Law_law.2.1 1210 = .ok (.iaload, 1) := by decide +kernel
theorem d_Law_law_1211 : decode M_Law_law.2.1 1211 = .ok (.aload_n 0, 1) := by decide +kernel
theorem d_Law_law_1212 : decode M_Law_law.2.1 1212 = .ok (.iload_n 3, 1) := by decide +kernel
theorem d_Law_law_1213 : decode M_Law_law.2.1 1213 = .ok (.iconst 2, 1) := by decide +kernel
theorem d_Law_law_1214 : decode M_Law_law.2.1 1214 = .ok (.iadd, 1) := by decide +kernel
theorem d_Law_law_1215 : decode M_Law_law.2.1 1215 = .ok (.iaload, 1) := by decide +kernel
theorem d_Law_law_1216 : decode M_Law_law.2.1 1216 = .ok (.invokevirtual 147, 3) := by decide +kernel
theorem d_Law_law_1219 : decode M_Law_law.2.1 1219 = .ok (.aload_n 2, 1) := by decide +kernel
theorem d_Law_law_1220 : decode M_Law_law.2.1 1220 = .ok (.aload_n 0, 1) := by decide +kernel
theorem d_Law_law_1221 : decode M_Law_law.2.1 1221 = .ok (.iload_n 3, 1) := by decide +kernel
theorem d_Law_law_1222 : decode M_Law_law.2.1 1222 = .ok (.iconst 1, 1) := by decide +kernel
theorem d_Law_law_1223 : decode M_Law_law.2.1 1223 = .ok (.iadd, 1) := by decide +kernel
theorem d_Law_law_1224 : decode M_Law_law.2.1 1224 = .ok (.iaload, 1) := by decide +kernel
theorem d_Law_law_1225 : decode M_Law_law.2.1 1225 = .ok (.aload_n 0, 1) := by decide +kernel
theorem d_Law_law_1226 : decode M_Law_law.2.1 1226 = .ok (.iload_n 3, 1) := by decide +kernel
theorem d_Law_law_1227 : decode M_Law_law.2.1 1227 = .ok (.iconst 2, 1) := by decide +kernel
theorem d_Law_law_1228 : decode M_Law_law.2.1 1228 = .ok (.iadd, 1) := by decide +kernel
theorem d_Law_law_1229 : decode M_Law_law.2.1 1229 = .ok (.iaload, 1) := by decide +kernel
theorem d_Law_law_1230 : decode M_Law_law.2.1 1230 = .ok (.invokevirtual 151, 3) := by decide +kernel
theorem d_Law_law_1233 : decode M_Law_law.2.1 1233 = .ok (.lcmp, 1) := by decide +kernel
theorem d_Law_law_1234 : decode M_Law_law.2.1 1234 = .ok (.ifCond .eq 68, 3) := by decide +kernel
theorem d_Law_law_1237 : decode M_Law_law.2.1 1237 = .ok (.iconst 0, 1) := by decide +kernel
theorem d_Law_law_1238 : decode M_Law_law.2.1 1238 = .ok (.ireturn, 1) := by decide +kernel
theorem d_Law_law_1239 : decode M_Law_law.2.1 1239 = .ok (.aload_n 1, 1) := by decide +kernel
theorem d_Law_law_1240 : decode M_Law_law.2.1 1240 = .ok (.aload_n 0, 1) := by decide +kernel
theorem d_Law_law_1241 : decode M_Law_law.2.1 1241 = .ok (.iload_n 3, 1) := by decide +kernel
theorem d_Law_law_1242 : decode M_Law_law.2.1 1242 = .ok (.iconst 1, 1) := by decide +kernel
theorem d_Law_law_1243 : decode M_Law_law.2.1 1243 = .ok (.iadd, 1) := by decide +kernel
theorem d_Law_law_1244 : decode M_Law_law.2.1 1244 = .ok (.iaload, 1) := by decide +kernel
theorem d_Law_law_1245 : decode M_Law_law.2.1 1245 = .ok (.aload_n 0, 1) := by decide +kernel
theorem d_Law_law_1246 : decode M_Law_law.2.1 1246 = .ok (.iload_n 3, 1) := by decide +kernel
theorem d_Law_law_1247 : decode M_Law_law.2.1 1247 = .ok (.iconst 2, 1) := by decide +kernel
theorem d_Law_law_1248 : decode M_Law_law.2.1 1248 = .ok (.iadd, 1) := by decide +kernel
theorem d_Law_law_1249 : decode M_Law_law.2.1 1249 = .ok (.iaload, 1) := by decide +kernel
theorem d_Law_law_1250 : decode M_Law_law.2.1 1250 = .ok (.aload_n 0, 1) := by decide +kernel
theorem d_Law_law_1251 : decode M_Law_law.2.1 1251 = .ok (.iload_n 3, 1) := by decide +kernel
theorem d_Law_law_1252 : decode M_Law_law.2.1 1252 = .ok (.iconst 3, 1) := by decide +kernel
theorem d_Law_law_1253 : decode M_Law_law.2.1 1253 = .ok (.iadd, 1) := by decide +kernel
theorem d_Law_law_1254 : decode M_Law_law.2.1 1254 = .ok (.iaload, 1) := by decide +kernel
theorem d_Law_law_1255 : decode M_Law_law.2.1 1255 = .ok (.aload_n 0, 1) := by decide +kernel
theorem d_Law_law_1256 : decode M_Law_law.2.1 1256 = .ok (.iload_n 3, 1) := by decide +kernel
theorem d_Law_law_1257 : decode M_Law_law.2.1 1257 = .ok (.iconst 4, 1) := by decide +kernel
theorem d_Law_law_1258 : decode M_Law_law.2.1 1258 = .ok (.iadd, 1) := by decide +kernel
theorem d_Law_law_1259 : decode M_Law_law.2.1 1259 = .ok (.iaload, 1) := by decide +kernel
theorem d_Law_law_1260 : decode M_Law_law.2.1 1260 = .ok (.aload_n 0, 1) := by decide +kernel
theorem d_Law_law_1261 : decode M_Law_law.2.1 1261 = .ok (.iload_n 3, 1) := by decide +kernel
theorem d_Law_law_1262 : decode M_Law_law.2.1 1262 = .ok (.iconst 5, 1) := by decide +kernel
theorem d_Law_law_1263 : decode M_Law_law.2.1 1263 = .ok (.iadd, 1) := by decide +kernel
theorem d_Law_law_1264 : decode M_Law_law.2.1 1264 = .ok (.iaload, 1) := by decide +kernel
theorem d_Law_law_1265 : decode M_Law_law.2.1 1265 = .ok (.invokevirtual 152, 3) := by decide +kernel
theorem d_Law_law_1268 : decode M_Law_law.2.1 1268 = .ok (.aload_n 2, 1) := by decide +kernel
theorem d_Law_law_1269 : decode M_Law_law.2.1 1269 = .ok (.aload_n 0, 1) := by decide +kernel
theorem d_Law_law_1270 : decode M_Law_law.2.1 1270 = .ok (.iload_n 3, 1) := by decide +kernel
theorem d_Law_law_1271 : decode M_Law_law.2.1 1271 = .ok (.iconst 1, 1) := by decide +kernel
theorem d_Law_law_1272 : decode M_Law_law.2.1 1272 = .ok (.iadd, 1) := by decide +kernel
theorem d_Law_law_1273 : decode M_Law_law.2.1 1273 = .ok (.iaload, 1) := by decide +kernel
theorem d_Law_law_1274 : decode M_Law_law.2.1 1274 = .ok (.aload_n 0, 1) := by decide +kernel
theorem d_Law_law_1275 : decode M_Law_law.2.1 1275 = .ok (.iload_n 3, 1) := by decide +kernel
theorem d_Law_law_1276 : decode M_Law_law.2.1 1276 = .ok (.iconst 2, 1) := by decide +kernel
theorem d_Law_law_1277 : decode M_Law_law.2.1 1277 = .ok (.iadd, 1) := by decide +kernel
theorem d_Law_law_1278 : decode M_Law_law.2.1 1278 = .ok (.iaload, 1) := by decide +kernel
theorem d_Law_law_1279 : decode M_Law_law.2.1 1279 = .ok (.aload_n 0, 1) := by decide +kernel
theorem d_Law_law_1280 : decode M_Law_law.2.1 1280 = .ok (.iload_n 3, 1) := by decide +kernel
theorem d_Law_law_1281 : decode M_Law_law.2.1 1281 = .ok (.iconst 3, 1) := by decide +kernel
theorem d_Law_law_1282 : decode M_Law_law.2.1 1282 = .ok (.iadd, 1) := by decide +kernel
theorem d_Law_law_1283 : decode M_Law_law.2.1 1283 = .ok (.iaload, 1) := by decide +kernel
theorem d_Law_law_1284 : decode M_Law_law.2.1 1284 = .ok (.aload_n 0, 1) := by decide +kernel
theorem d_Law_law_1285 : decode M_Law_law.2.1 1285 = .ok (.iload_n 3, 1) := by decide +kernel
theorem d_Law_law_1286 : decode M_Law_law.2.1 1286 = .ok (.iconst 4, 1) := by decide +kernel
theorem d_Law_law_1287 : decode M_Law_law.2.1 1287 = .ok (.iadd, 1) := by decide +kernel
theorem d_Law_law_1288 : decode M_Law_law.2.1 1288 = .ok (.iaload, 1) := by decide +kernel
theorem d_Law_law_1289 : decode M_Law_law.2.1 1289 = .ok (.aload_n 0, 1) := by decide +kernel
theorem d_Law_law_1290 : decode M_Law_law.2.1 1290 = .ok (.iload_n 3, 1) := by decide +kernel
theorem d_Law_law_1291 : decode M_Law_law.2.1 1291 = .ok (.iconst 5, 1) := by decide +kernel
theorem d_Law_law_1292 : decode M_Law_law.2.1 1292 = .ok (.iadd, 1) := by decide +kernel
theorem d_Law_law_1293 : decode M_Law_law.2.1 1293 = .ok (.iaload, 1) := by decide +kernel
theorem d_Law_law_1294 : decode M_Law_law.2.1 1294 = .ok (.invokevirtual 155, 3) := by decide +kernel
theorem d_Law_law_1297 : decode M_Law_law.2.1 1297 = .ok (.if_icmp .eq 5, 3) := by decide +kernel
theorem d_Law_law_1300 : decode M_Law_law.2.1 1300 = .ok (.iconst 0, 1) := by decide +kernel
theorem d_Law_law_1301 : decode M_Law_law.2.1 1301 = .ok (.ireturn, 1) := by decide +kernel
theorem d_Law_law_1302 : decode M_Law_law.2.1 1302 = .ok (.iinc 3 6, 3) := by decide +kernel
theorem d_Law_law_1305 : decode M_Law_law.2.1 1305 = .ok (.goto (-1287), 3) := by decide +kernel
theorem d_Law_law_1308 : decode M_Law_law.2.1 1308 = .ok (.iconst 1, 1) := by decide +kernel
theorem d_Law_law_1309 : decode M_Law_law.2.1 1309 = .ok (.ireturn, 1) := by decide +kernel
