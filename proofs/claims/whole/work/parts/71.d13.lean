theorem dL_law_1165 : decode cL_law 1165 = .ok (.aload_n 0, 1) := by decide +kernel
theorem dL_law_1166 : decode cL_law 1166 = .ok (.iload 4, 2) := by decide +kernel
theorem dL_law_1168 : decode cL_law 1168 = .ok (.iconst 1, 1) := by decide +kernel
theorem dL_law_1169 : decode cL_law 1169 = .ok (.iadd, 1) := by decide +kernel
theorem dL_law_1170 : decode cL_law 1170 = .ok (.iaload, 1) := by decide +kernel
theorem dL_law_1171 : decode cL_law 1171 = .ok (.aload_n 0, 1) := by decide +kernel
theorem dL_law_1172 : decode cL_law 1172 = .ok (.iload 4, 2) := by decide +kernel
theorem dL_law_1174 : decode cL_law 1174 = .ok (.iconst 2, 1) := by decide +kernel
theorem dL_law_1175 : decode cL_law 1175 = .ok (.iadd, 1) := by decide +kernel
theorem dL_law_1176 : decode cL_law 1176 = .ok (.iaload, 1) := by decide +kernel
theorem dL_law_1177 : decode cL_law 1177 = .ok (.aload_n 3, 1) := by decide +kernel
theorem dL_law_1178 : decode cL_law 1178 = .ok (.invokestatic 136, 3) := by decide +kernel
theorem dL_law_1181 : decode cL_law 1181 = .ok (.istore 5, 2) := by decide +kernel
theorem dL_law_1183 : decode cL_law 1183 = .ok (.aload_n 2, 1) := by decide +kernel
theorem dL_law_1184 : decode cL_law 1184 = .ok (.aload_n 0, 1) := by decide +kernel
theorem dL_law_1185 : decode cL_law 1185 = .ok (.iload 4, 2) := by decide +kernel
theorem dL_law_1187 : decode cL_law 1187 = .ok (.iconst 1, 1) := by decide +kernel
theorem dL_law_1188 : decode cL_law 1188 = .ok (.iadd, 1) := by decide +kernel
theorem dL_law_1189 : decode cL_law 1189 = .ok (.iaload, 1) := by decide +kernel
theorem dL_law_1190 : decode cL_law 1190 = .ok (.aload_n 0, 1) := by decide +kernel
theorem dL_law_1191 : decode cL_law 1191 = .ok (.iload 4, 2) := by decide +kernel
theorem dL_law_1193 : decode cL_law 1193 = .ok (.iconst 2, 1) := by decide +kernel
theorem dL_law_1194 : decode cL_law 1194 = .ok (.iadd, 1) := by decide +kernel
theorem dL_law_1195 : decode cL_law 1195 = .ok (.iaload, 1) := by decide +kernel
theorem dL_law_1196 : decode cL_law 1196 = .ok (.invokevirtual 138, 3) := by decide +kernel
theorem dL_law_1199 : decode cL_law 1199 = .ok (.istore 6, 2) := by decide +kernel
theorem dL_law_1201 : decode cL_law 1201 = .ok (.aload_n 2, 1) := by decide +kernel
theorem dL_law_1202 : decode cL_law 1202 = .ok (.invokevirtual 90, 3) := by decide +kernel
theorem dL_law_1205 : decode cL_law 1205 = .ok (.iload 5, 2) := by decide +kernel
theorem dL_law_1207 : decode cL_law 1207 = .ok (.if_icmp .eq 5, 3) := by decide +kernel
theorem dL_law_1210 : decode cL_law 1210 = .ok (.iconst 0, 1) := by decide +kernel
theorem dL_law_1211 : decode cL_law 1211 = .ok (.ireturn, 1) := by decide +kernel
theorem dL_law_1212 : decode cL_law 1212 = .ok (.iload 5, 2) := by decide +kernel
theorem dL_law_1214 : decode cL_law 1214 = .ok (.ifCond .ne 15, 3) := by decide +kernel
theorem dL_law_1217 : decode cL_law 1217 = .ok (.aload_n 3, 1) := by decide +kernel
theorem dL_law_1218 : decode cL_law 1218 = .ok (.iconst 0, 1) := by decide +kernel
theorem dL_law_1219 : decode cL_law 1219 = .ok (.laload, 1) := by decide +kernel
theorem dL_law_1220 : decode cL_law 1220 = .ok (.iload 6, 2) := by decide +kernel
theorem dL_law_1222 : decode cL_law 1222 = .ok (.i2l, 1) := by decide +kernel
theorem dL_law_1223 : decode cL_law 1223 = .ok (.lcmp, 1) := by decide +kernel
theorem dL_law_1224 : decode cL_law 1224 = .ok (.ifCond .eq 5, 3) := by decide +kernel
theorem dL_law_1227 : decode cL_law 1227 = .ok (.iconst 0, 1) := by decide +kernel
theorem dL_law_1228 : decode cL_law 1228 = .ok (.ireturn, 1) := by decide +kernel
theorem dL_law_1229 : decode cL_law 1229 = .ok (.goto 254, 3) := by decide +kernel
theorem dL_law_1232 : decode cL_law 1232 = .ok (.aload_n 1, 1) := by decide +kernel
theorem dL_law_1233 : decode cL_law 1233 = .ok (.aload_n 0, 1) := by decide +kernel
theorem dL_law_1234 : decode cL_law 1234 = .ok (.iload 4, 2) := by decide +kernel
theorem dL_law_1236 : decode cL_law 1236 = .ok (.iconst 1, 1) := by decide +kernel
theorem dL_law_1237 : decode cL_law 1237 = .ok (.iadd, 1) := by decide +kernel
theorem dL_law_1238 : decode cL_law 1238 = .ok (.iaload, 1) := by decide +kernel
theorem dL_law_1239 : decode cL_law 1239 = .ok (.aload_n 0, 1) := by decide +kernel
theorem dL_law_1240 : decode cL_law 1240 = .ok (.iload 4, 2) := by decide +kernel
theorem dL_law_1242 : decode cL_law 1242 = .ok (.iconst 2, 1) := by decide +kernel
theorem dL_law_1243 : decode cL_law 1243 = .ok (.iadd, 1) := by decide +kernel
theorem dL_law_1244 : decode cL_law 1244 = .ok (.iaload, 1) := by decide +kernel
theorem dL_law_1245 : decode cL_law 1245 = .ok (.aload_n 3, 1) := by decide +kernel
theorem dL_law_1246 : decode cL_law 1246 = .ok (.invokestatic 139, 3) := by decide +kernel
theorem dL_law_1249 : decode cL_law 1249 = .ok (.istore 5, 2) := by decide +kernel
theorem dL_law_1251 : decode cL_law 1251 = .ok (.aload_n 2, 1) := by decide +kernel
theorem dL_law_1252 : decode cL_law 1252 = .ok (.aload_n 0, 1) := by decide +kernel
