/-! decode rows -/
theorem d_law_1162 : decode code 1162 = .ok (.invokevirtual 123, 3) := by decide +kernel
theorem d_law_1165 : decode code 1165 = .ok (.lcmp, 1) := by decide +kernel
theorem d_law_1166 : decode code 1166 = .ok (.ifCond .eq 266, 3) := by decide +kernel
theorem d_law_1171 : decode code 1171 = .ok (.aload_n 1, 1) := by decide +kernel
theorem d_law_1172 : decode code 1172 = .ok (.invokevirtual 124, 3) := by decide +kernel
theorem d_law_1175 : decode code 1175 = .ok (.aload_n 2, 1) := by decide +kernel
theorem d_law_1176 : decode code 1176 = .ok (.invokevirtual 127, 3) := by decide +kernel
theorem d_law_1179 : decode code 1179 = .ok (.if_icmp .eq 253, 3) := by decide +kernel
theorem d_law_1184 : decode code 1184 = .ok (.aload_n 1, 1) := by decide +kernel
theorem d_law_1185 : decode code 1185 = .ok (.invokevirtual 128, 3) := by decide +kernel
theorem d_law_1188 : decode code 1188 = .ok (.aload_n 2, 1) := by decide +kernel
theorem d_law_1189 : decode code 1189 = .ok (.invokevirtual 131, 3) := by decide +kernel
theorem d_law_1192 : decode code 1192 = .ok (.if_icmp .eq 240, 3) := by decide +kernel
theorem d_law_1197 : decode code 1197 = .ok (.aload_n 1, 1) := by decide +kernel
theorem d_law_1198 : decode code 1198 = .ok (.aload_n 0, 1) := by decide +kernel
theorem d_law_1199 : decode code 1199 = .ok (.iload_n 3, 1) := by decide +kernel
theorem d_law_1200 : decode code 1200 = .ok (.iconst 1, 1) := by decide +kernel
theorem d_law_1201 : decode code 1201 = .ok (.iadd, 1) := by decide +kernel
theorem d_law_1202 : decode code 1202 = .ok (.iaload, 1) := by decide +kernel
theorem d_law_1203 : decode code 1203 = .ok (.aload_n 0, 1) := by decide +kernel
theorem d_law_1204 : decode code 1204 = .ok (.iload_n 3, 1) := by decide +kernel
theorem d_law_1205 : decode code 1205 = .ok (.iconst 2, 1) := by decide +kernel
theorem d_law_1206 : decode code 1206 = .ok (.iadd, 1) := by decide +kernel
theorem d_law_1207 : decode code 1207 = .ok (.iaload, 1) := by decide +kernel
theorem d_law_1208 : decode code 1208 = .ok (.aload_n 0, 1) := by decide +kernel
theorem d_law_1209 : decode code 1209 = .ok (.iload_n 3, 1) := by decide +kernel
theorem d_law_1210 : decode code 1210 = .ok (.iconst 3, 1) := by decide +kernel
theorem d_law_1211 : decode code 1211 = .ok (.iadd, 1) := by decide +kernel
theorem d_law_1212 : decode code 1212 = .ok (.iaload, 1) := by decide +kernel
theorem d_law_1213 : decode code 1213 = .ok (.invokevirtual 132, 3) := by decide +kernel
theorem d_law_1216 : decode code 1216 = .ok (.aload_n 2, 1) := by decide +kernel
theorem d_law_1217 : decode code 1217 = .ok (.aload_n 0, 1) := by decide +kernel
theorem d_law_1218 : decode code 1218 = .ok (.iload_n 3, 1) := by decide +kernel
theorem d_law_1219 : decode code 1219 = .ok (.iconst 1, 1) := by decide +kernel
theorem d_law_1220 : decode code 1220 = .ok (.iadd, 1) := by decide +kernel
theorem d_law_1221 : decode code 1221 = .ok (.iaload, 1) := by decide +kernel
theorem d_law_1222 : decode code 1222 = .ok (.aload_n 0, 1) := by decide +kernel
theorem d_law_1223 : decode code 1223 = .ok (.iload_n 3, 1) := by decide +kernel
theorem d_law_1224 : decode code 1224 = .ok (.iconst 2, 1) := by decide +kernel
theorem d_law_1225 : decode code 1225 = .ok (.iadd, 1) := by decide +kernel
theorem d_law_1226 : decode code 1226 = .ok (.iaload, 1) := by decide +kernel
theorem d_law_1227 : decode code 1227 = .ok (.aload_n 0, 1) := by decide +kernel
theorem d_law_1228 : decode code 1228 = .ok (.iload_n 3, 1) := by decide +kernel
theorem d_law_1229 : decode code 1229 = .ok (.iconst 3, 1) := by decide +kernel
theorem d_law_1230 : decode code 1230 = .ok (.iadd, 1) := by decide +kernel
theorem d_law_1231 : decode code 1231 = .ok (.iaload, 1) := by decide +kernel
theorem d_law_1232 : decode code 1232 = .ok (.invokevirtual 135, 3) := by decide +kernel
theorem d_law_1235 : decode code 1235 = .ok (.if_icmp .eq 197, 3) := by decide +kernel
theorem d_law_1240 : decode code 1240 = .ok (.aload_n 1, 1) := by decide +kernel
theorem d_law_1241 : decode code 1241 = .ok (.aload_n 0, 1) := by decide +kernel
theorem d_law_1242 : decode code 1242 = .ok (.iload_n 3, 1) := by decide +kernel
theorem d_law_1243 : decode code 1243 = .ok (.iconst 1, 1) := by decide +kernel
theorem d_law_1244 : decode code 1244 = .ok (.iadd, 1) := by decide +kernel
theorem d_law_1245 : decode code 1245 = .ok (.iaload, 1) := by decide +kernel
theorem d_law_1246 : decode code 1246 = .ok (.aload_n 0, 1) := by decide +kernel
theorem d_law_1247 : decode code 1247 = .ok (.iload_n 3, 1) := by decide +kernel
theorem d_law_1248 : decode code 1248 = .ok (.iconst 2, 1) := by decide +kernel
theorem d_law_1249 : decode code 1249 = .ok (.iadd, 1) := by decide +kernel
theorem d_law_1250 : decode code 1250 = .ok (.iaload, 1) := by decide +kernel
theorem d_law_1251 : decode code 1251 = .ok (.aload_n 0, 1) := by decide +kernel
theorem d_law_1252 : decode code 1252 = .ok (.iload_n 3, 1) := by decide +kernel
theorem d_law_1253 : decode code 1253 = .ok (.iconst 3, 1) := by decide +kernel
theorem d_law_1254 : decode code 1254 = .ok (.iadd, 1) := by decide +kernel
theorem d_law_1255 : decode code 1255 = .ok (.iaload, 1) := by decide +kernel
theorem d_law_1256 : decode code 1256 = .ok (.invokevirtual 136, 3) := by decide +kernel
theorem d_law_1259 : decode code 1259 = .ok (.aload_n 2, 1) := by decide +kernel
theorem d_law_1260 : decode code 1260 = .ok (.aload_n 0, 1) := by decide +kernel
theorem d_law_1261 : decode code 1261 = .ok (.iload_n 3, 1) := by decide +kernel
theorem d_law_1262 : decode code 1262 = .ok (.iconst 1, 1) := by decide +kernel
theorem d_law_1263 : decode code 1263 = .ok (.iadd, 1) := by decide +kernel
theorem d_law_1264 : decode code 1264 = .ok (.iaload, 1) := by decide +kernel
theorem d_law_1265 : decode code 1265 = .ok (.aload_n 0, 1) := by decide +kernel
theorem d_law_1266 : decode code 1266 = .ok (.iload_n 3, 1) := by decide +kernel
theorem d_law_1267 : decode code 1267 = .ok (.iconst 2, 1) := by decide +kernel
theorem d_law_1268 : decode code 1268 = .ok (.iadd, 1) := by decide +kernel
theorem d_law_1269 : decode code 1269 = .ok (.iaload, 1) := by decide +kernel
theorem d_law_1270 : decode code 1270 = .ok (.aload_n 0, 1) := by decide +kernel
theorem d_law_1271 : decode code 1271 = .ok (.iload_n 3, 1) := by decide +kernel
theorem d_law_1272 : decode code 1272 = .ok (.iconst 3, 1) := by decide +kernel
theorem d_law_1273 : decode code 1273 = .ok (.iadd, 1) := by decide +kernel
