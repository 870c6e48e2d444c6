theorem lc_24 {K : KT} {L : Nat} {xs : Nat → Int32} {i : Nat} {h : Hp} (hi : i + 6 ≤ L) (hL : L ≤ 384) (R : RLL h h) (nx : ∀ h2 : Hp, RLL h2 h2 → LWK K L xs 1391 i [] h2) : LWK K L xs 974 i [] h := by
  refine AW.known (fun H => ?_)
  obtain ⟨v, F1, m1, k1⟩ := sim_undo (K := K) (show 130 ≤ 999 by decide) H R 
  refine AW.aload_n dL_974 rfl ?_
  refine AW.invQ0 dL_975 mlL_114 mX11_undo ly_0 rfl m1 (fun h1 s1 => AW.known (fun H1 => ?_))
  obtain ⟨F2, m2, k2⟩ := k1 h1 s1 H1
  refine AW.aload_n dL_978 rfl ?_
  refine AW.invQ0 dL_979 mlL_117 mX12_undo ly_57 rfl m2 (fun h2 s2 => ?_)
  exact AW.icmpS dL_982 (nx h2 (k2 h2 s2))
theorem lc_25 {K : KT} {L : Nat} {xs : Nat → Int32} {i : Nat} {h : Hp} (hi : i + 6 ≤ L) (hL : L ≤ 384) (R : RLL h h) (nx : ∀ h2 : Hp, RLL h2 h2 → LWK K L xs 1391 i [] h2) : LWK K L xs 987 i [] h := by
  refine AW.known (fun H => ?_)
  obtain ⟨v, F1, m1, k1⟩ := sim_redo (K := K) (show 130 ≤ 999 by decide) H R 
  refine AW.aload_n dL_987 rfl ?_
  refine AW.invQ0 dL_988 mlL_118 mX11_redo ly_0 rfl m1 (fun h1 s1 => AW.known (fun H1 => ?_))
  obtain ⟨F2, m2, k2⟩ := k1 h1 s1 H1
  refine AW.aload_n dL_991 rfl ?_
  refine AW.invQ0 dL_992 mlL_121 mX12_redo ly_57 rfl m2 (fun h2 s2 => ?_)
  exact AW.icmpS dL_995 (nx h2 (k2 h2 s2))
theorem lc_26 {K : KT} {L : Nat} {xs : Nat → Int32} {i : Nat} {h : Hp} (hi : i + 6 ≤ L) (hL : L ≤ 384) (R : RLL h h) (nx : ∀ h2 : Hp, RLL h2 h2 → LWK K L xs 1391 i [] h2) : LWK K L xs 1000 i [] h := by
  refine AW.known (fun H => ?_)
  obtain ⟨v, F1, m1, k1⟩ := sim_body (K := K) (show 130 ≤ 999 by decide) H R (in32 (xs (i + 1)))
  refine AW.aload_n dL_1000 rfl ?_
  refine AW.sarg 1 dL_1001 dL_1002 dL_1003 dL_1004 dL_1005 hi hL ?_
  refine AW.invQ1 dL_1006 mlL_122 mX11_body ly_0 rfl m1 (fun h1 s1 => AW.known (fun H1 => ?_))
  obtain ⟨F2, m2, k2⟩ := k1 h1 s1 H1
  refine AW.aload_n dL_1009 rfl ?_
  refine AW.sarg 1 dL_1010 dL_1011 dL_1012 dL_1013 dL_1014 hi hL ?_
  refine AW.invQ1 dL_1015 mlL_125 mX12_body ly_57 rfl m2 (fun h2 s2 => ?_)
  exact AW.icmpS dL_1018 (nx h2 (k2 h2 s2))
theorem lc_27 {K : KT} {L : Nat} {xs : Nat → Int32} {i : Nat} {h : Hp} (hi : i + 6 ≤ L) (hL : L ≤ 384) (R : RLL h h) (nx : ∀ h2 : Hp, RLL h2 h2 → LWK K L xs 1391 i [] h2) : LWK K L xs 1023 i [] h := by
  refine AW.known (fun H => ?_)
  obtain ⟨v, F1, m1, k1⟩ := sim_act (K := K) (show 130 ≤ 999 by decide) H R (in32 (xs (i + 1))) (in32 (xs (i + 2))) (in32 (xs (i + 3)))
  refine AW.aload_n dL_1023 rfl ?_
  refine AW.sarg 1 dL_1024 dL_1025 dL_1026 dL_1027 dL_1028 hi hL ?_
  refine AW.sarg 2 dL_1029 dL_1030 dL_1031 dL_1032 dL_1033 hi hL ?_
  refine AW.sarg 3 dL_1034 dL_1035 dL_1036 dL_1037 dL_1038 hi hL ?_
  refine AW.invQ3 dL_1039 mlL_126 mX11_act ly_0 rfl m1 (fun h1 s1 => AW.known (fun H1 => ?_))
  obtain ⟨F2, m2, k2⟩ := k1 h1 s1 H1
  refine AW.aload_n dL_1042 rfl ?_
  refine AW.sarg 1 dL_1043 dL_1044 dL_1045 dL_1046 dL_1047 hi hL ?_
  refine AW.sarg 2 dL_1048 dL_1049 dL_1050 dL_1051 dL_1052 hi hL ?_
  refine AW.sarg 3 dL_1053 dL_1054 dL_1055 dL_1056 dL_1057 hi hL ?_
  refine AW.invQ3 dL_1058 mlL_129 mX12_act ly_57 rfl m2 (fun h2 s2 => ?_)
  exact AW.icmpS dL_1061 (nx h2 (k2 h2 s2))
theorem lc_28 {K : KT} {L : Nat} {xs : Nat → Int32} {i : Nat} {h : Hp} (hi : i + 6 ≤ L) (hL : L ≤ 384) (R : RLL h h) (nx : ∀ h2 : Hp, RLL h2 h2 → LWK K L xs 1391 i [] h2) : LWK K L xs 1066 i [] h := by
  refine AW.known (fun H => ?_)
  obtain ⟨v, F1, m1, k1⟩ := sim_trace (K := K) (show 130 ≤ 999 by decide) H R (in32 (xs (i + 1)))
  refine AW.aload_n dL_1066 rfl ?_
  refine AW.sarg 1 dL_1067 dL_1068 dL_1069 dL_1070 dL_1071 hi hL ?_
  refine AW.invQ1 dL_1072 mlL_130 mX11_trace ly_0 rfl m1 (fun h1 s1 => AW.known (fun H1 => ?_))
  obtain ⟨F2, m2, k2⟩ := k1 h1 s1 H1
  refine AW.aload_n dL_1075 rfl ?_
  refine AW.sarg 1 dL_1076 dL_1077 dL_1078 dL_1079 dL_1080 hi hL ?_
  refine AW.invQ1 dL_1081 mlL_133 mX12_trace ly_57 rfl m2 (fun h2 s2 => ?_)
  exact AW.icmpS dL_1084 (nx h2 (k2 h2 s2))
theorem lc_29 {K : KT} {L : Nat} {xs : Nat → Int32} {i : Nat} {h : Hp} (hi : i + 6 ≤ L) (hL : L ≤ 384) (R : RLL h h) (nx : ∀ h2 : Hp, RLL h2 h2 → LWK K L xs 1391 i [] h2) : LWK K L xs 1089 i [] h := by
  refine AW.known (fun H => ?_)
  obtain ⟨v, F1, m1, k1⟩ := sim_keep (K := K) (show 130 ≤ 999 by decide) H R (in32 (xs (i + 1))) (in32 (xs (i + 2)))
  refine AW.aload_n dL_1089 rfl ?_
  refine AW.sarg 1 dL_1090 dL_1091 dL_1092 dL_1093 dL_1094 hi hL ?_
  refine AW.sarg 2 dL_1095 dL_1096 dL_1097 dL_1098 dL_1099 hi hL ?_
  refine AW.invQ2 dL_1100 mlL_134 mX11_keep ly_0 rfl m1 (fun h1 s1 => AW.known (fun H1 => ?_))
  obtain ⟨F2, m2, k2⟩ := k1 h1 s1 H1
  refine AW.aload_n dL_1103 rfl ?_
  refine AW.sarg 1 dL_1104 dL_1105 dL_1106 dL_1107 dL_1108 hi hL ?_
  refine AW.sarg 2 dL_1109 dL_1110 dL_1111 dL_1112 dL_1113 hi hL ?_
  refine AW.invQ2 dL_1114 mlL_137 mX12_keep ly_57 rfl m2 (fun h2 s2 => ?_)
  exact AW.icmpS dL_1117 (nx h2 (k2 h2 s2))
theorem lc_30 {K : KT} {L : Nat} {xs : Nat → Int32} {i : Nat} {h : Hp} (hi : i + 6 ≤ L) (hL : L ≤ 384) (R : RLL h h) (nx : ∀ h2 : Hp, RLL h2 h2 → LWK K L xs 1391 i [] h2) : LWK K L xs 1122 i [] h := by
  refine AW.known (fun H => ?_)
  obtain ⟨v, F1, m1, k1⟩ := sim_row (K := K) (show 130 ≤ 999 by decide) H R (in32 (xs (i + 1))) (in32 (xs (i + 2))) (in32 (xs (i + 3)))
  refine AW.aload_n dL_1122 rfl ?_
  refine AW.sarg 1 dL_1123 dL_1124 dL_1125 dL_1126 dL_1127 hi hL ?_
  refine AW.sarg 2 dL_1128 dL_1129 dL_1130 dL_1131 dL_1132 hi hL ?_
  refine AW.sarg 3 dL_1133 dL_1134 dL_1135 dL_1136 dL_1137 hi hL ?_
  refine AW.invQ3 dL_1138 mlL_138 mX11_row ly_0 rfl m1 (fun h1 s1 => AW.known (fun H1 => ?_))
  obtain ⟨F2, m2, k2⟩ := k1 h1 s1 H1
  refine AW.aload_n dL_1141 rfl ?_
  refine AW.sarg 1 dL_1142 dL_1143 dL_1144 dL_1145 dL_1146 hi hL ?_
  refine AW.sarg 2 dL_1147 dL_1148 dL_1149 dL_1150 dL_1151 hi hL ?_
  refine AW.sarg 3 dL_1152 dL_1153 dL_1154 dL_1155 dL_1156 hi hL ?_
  refine AW.invQ3 dL_1157 mlL_141 mX12_row ly_57 rfl m2 (fun h2 s2 => ?_)
  exact AW.icmpS dL_1160 (nx h2 (k2 h2 s2))
theorem lc_31 {K : KT} {L : Nat} {xs : Nat → Int32} {i : Nat} {h : Hp} (hi : i + 6 ≤ L) (hL : L ≤ 384) (R : RLL h h) (nx : ∀ h2 : Hp, RLL h2 h2 → LWK K L xs 1391 i [] h2) : LWK K L xs 1165 i [] h := by
  refine AW.known (fun H => ?_)
  obtain ⟨v, F1, m1, k1⟩ := sim_put (K := K) (show 130 ≤ 999 by decide) H R (in32 (xs (i + 1))) (in32 (xs (i + 2))) (in64 ((Int64.ofInt (Int64.ofInt (xs (i + 3)).toInt <<< ((Int32.ofInt 32).toInt64 &&& 63)).toInt) ||| Int64.ofInt (Int64.ofInt (xs (i + 4)).toInt &&& Int64.ofInt 4294967295).toInt))
  refine AW.aload_n dL_1165 rfl ?_
  refine AW.sarg 1 dL_1166 dL_1167 dL_1168 dL_1169 dL_1170 hi hL ?_
  refine AW.sarg 2 dL_1171 dL_1172 dL_1173 dL_1174 dL_1175 hi hL ?_
  refine AW.sarg 3 dL_1176 dL_1177 dL_1178 dL_1179 dL_1180 hi hL ?_
  refine AW.i2l dL_1181 (in32 _) ?_
  refine AW.bipush dL_1182 (by decide) ?_
  refine AW.lshl dL_1184 ?_
  refine AW.sarg 4 dL_1185 dL_1186 dL_1187 dL_1188 dL_1189 hi hL ?_
  refine AW.i2l dL_1190 (in32 _) ?_
  refine AW.ldc2 dL_1191 klL_142 ?_
  refine AW.land dL_1194 ?_
  refine AW.lor dL_1195 ?_
  refine AW.invQ3 dL_1196 mlL_144 mX11_put ly_0 rfl m1 (fun h1 s1 => AW.known (fun H1 => ?_))
  obtain ⟨F2, m2, k2⟩ := k1 h1 s1 H1
  refine AW.aload_n dL_1199 rfl ?_
  refine AW.sarg 1 dL_1200 dL_1201 dL_1202 dL_1203 dL_1204 hi hL ?_
  refine AW.sarg 2 dL_1205 dL_1206 dL_1207 dL_1208 dL_1209 hi hL ?_
  refine AW.sarg 3 dL_1210 dL_1211 dL_1212 dL_1213 dL_1214 hi hL ?_
  refine AW.i2l dL_1215 (in32 _) ?_
  refine AW.bipush dL_1216 (by decide) ?_
  refine AW.lshl dL_1218 ?_
  refine AW.sarg 4 dL_1219 dL_1220 dL_1221 dL_1222 dL_1223 hi hL ?_
  refine AW.i2l dL_1224 (in32 _) ?_
  refine AW.ldc2 dL_1225 klL_142 ?_
  refine AW.land dL_1228 ?_
  refine AW.lor dL_1229 ?_
  refine AW.invQ3 dL_1230 mlL_148 mX12_put ly_57 rfl m2 (fun h2 s2 => ?_)
  exact AW.icmpS dL_1233 (nx h2 (k2 h2 s2))
theorem lc_32 {K : KT} {L : Nat} {xs : Nat → Int32} {i : Nat} {h : Hp} (hi : i + 6 ≤ L) (hL : L ≤ 384) (R : RLL h h) (nx : ∀ h2 : Hp, RLL h2 h2 → LWK K L xs 1391 i [] h2) : LWK K L xs 1238 i [] h := by
  refine AW.known (fun H => ?_)
  obtain ⟨v, F1, m1, k1⟩ := sim_element (K := K) (show 130 ≤ 999 by decide) H R (in32 (xs (i + 1))) (in32 (xs (i + 2)))
  refine AW.aload_n dL_1238 rfl ?_
  refine AW.sarg 1 dL_1239 dL_1240 dL_1241 dL_1242 dL_1243 hi hL ?_
  refine AW.sarg 2 dL_1244 dL_1245 dL_1246 dL_1247 dL_1248 hi hL ?_
  refine AW.invQ2 dL_1249 mlL_149 mX11_element ly_0 rfl m1 (fun h1 s1 => AW.known (fun H1 => ?_))
  obtain ⟨F2, m2, k2⟩ := k1 h1 s1 H1
  refine AW.aload_n dL_1252 rfl ?_
  refine AW.sarg 1 dL_1253 dL_1254 dL_1255 dL_1256 dL_1257 hi hL ?_
  refine AW.sarg 2 dL_1258 dL_1259 dL_1260 dL_1261 dL_1262 hi hL ?_
  refine AW.invQ2 dL_1263 mlL_153 mX12_element ly_57 rfl m2 (fun h2 s2 => ?_)
  refine AW.lcmpS dL_1266 ?_
  exact AW.if_eq dL_1267 inI_0 (fun _ => nx h2 (k2 h2 s2)) (fun z => absurd rfl z)
theorem lc_33 {K : KT} {L : Nat} {xs : Nat → Int32} {i : Nat} {h : Hp} (hi : i + 6 ≤ L) (hL : L ≤ 384) (R : RLL h h) (nx : ∀ h2 : Hp, RLL h2 h2 → LWK K L xs 1391 i [] h2) : LWK K L xs 1272 i [] h := by
  refine AW.known (fun H => ?_)
  obtain ⟨v, F1, m1, k1⟩ := sim_shift (K := K) (show 130 ≤ 999 by decide) H R (in32 (xs (i + 1))) (in32 (xs (i + 2))) (in32 (xs (i + 3))) (in32 (xs (i + 4))) (in32 (xs (i + 5)))
  refine AW.aload_n dL_1272 rfl ?_
  refine AW.sarg 1 dL_1273 dL_1274 dL_1275 dL_1276 dL_1277 hi hL ?_
  refine AW.sarg 2 dL_1278 dL_1279 dL_1280 dL_1281 dL_1282 hi hL ?_
  refine AW.sarg 3 dL_1283 dL_1284 dL_1285 dL_1286 dL_1287 hi hL ?_
  refine AW.sarg 4 dL_1288 dL_1289 dL_1290 dL_1291 dL_1292 hi hL ?_
  refine AW.sarg 5 dL_1293 dL_1294 dL_1295 dL_1296 dL_1297 hi hL ?_
  refine AW.invQ5 dL_1298 mlL_154 mX11_shift ly_0 rfl m1 (fun h1 s1 => AW.known (fun H1 => ?_))
  obtain ⟨F2, m2, k2⟩ := k1 h1 s1 H1
  refine AW.aload_n dL_1301 rfl ?_
  refine AW.sarg 1 dL_1302 dL_1303 dL_1304 dL_1305 dL_1306 hi hL ?_
  refine AW.sarg 2 dL_1307 dL_1308 dL_1309 dL_1310 dL_1311 hi hL ?_
  refine AW.sarg 3 dL_1312 dL_1313 dL_1314 dL_1315 dL_1316 hi hL ?_
  refine AW.sarg 4 dL_1317 dL_1318 dL_1319 dL_1320 dL_1321 hi hL ?_
  refine AW.sarg 5 dL_1322 dL_1323 dL_1324 dL_1325 dL_1326 hi hL ?_
  refine AW.invQ5 dL_1327 mlL_158 mX12_shift ly_57 rfl m2 (fun h2 s2 => ?_)
  exact AW.icmpS dL_1330 (nx h2 (k2 h2 s2))
theorem lc_34 {K : KT} {L : Nat} {xs : Nat → Int32} {i : Nat} {h : Hp} (hi : i + 6 ≤ L) (hL : L ≤ 384) (R : RLL h h) (nx : ∀ h2 : Hp, RLL h2 h2 → LWK K L xs 1391 i [] h2) : LWK K L xs 1335 i [] h := by
  refine AW.known (fun H => ?_)
  obtain ⟨v, F1, m1, k1⟩ := sim_taken (K := K) (show 130 ≤ 999 by decide) H R (in32 (xs (i + 1))) (in32 (xs (i + 2)))
  refine AW.aload_n dL_1335 rfl ?_
  refine AW.sarg 1 dL_1336 dL_1337 dL_1338 dL_1339 dL_1340 hi hL ?_
  refine AW.sarg 2 dL_1341 dL_1342 dL_1343 dL_1344 dL_1345 hi hL ?_
  refine AW.invQ2 dL_1346 mlL_159 mX11_taken ly_0 rfl m1 (fun h1 s1 => AW.known (fun H1 => ?_))
  obtain ⟨F2, m2, k2⟩ := k1 h1 s1 H1
  refine AW.aload_n dL_1349 rfl ?_
  refine AW.sarg 1 dL_1350 dL_1351 dL_1352 dL_1353 dL_1354 hi hL ?_
  refine AW.sarg 2 dL_1355 dL_1356 dL_1357 dL_1358 dL_1359 hi hL ?_
  refine AW.invQ2 dL_1360 mlL_162 mX12_taken ly_57 rfl m2 (fun h2 s2 => ?_)
  exact AW.icmpS dL_1363 (nx h2 (k2 h2 s2))
theorem lc_35 {K : KT} {L : Nat} {xs : Nat → Int32} {i : Nat} {h : Hp} (hi : i + 6 ≤ L) (hL : L ≤ 384) (R : RLL h h) (nx : ∀ h2 : Hp, RLL h2 h2 → LWK K L xs 1391 i [] h2) : LWK K L xs 1368 i [] h := by
  refine AW.known (fun H => ?_)
  obtain ⟨v, F1, m1, k1⟩ := sim_count (K := K) (show 130 ≤ 999 by decide) H R (in32 (xs (i + 1)))
  refine AW.aload_n dL_1368 rfl ?_
  refine AW.sarg 1 dL_1369 dL_1370 dL_1371 dL_1372 dL_1373 hi hL ?_
  refine AW.invQ1 dL_1374 mlL_163 mX11_count ly_0 rfl m1 (fun h1 s1 => AW.known (fun H1 => ?_))
  obtain ⟨F2, m2, k2⟩ := k1 h1 s1 H1
  refine AW.aload_n dL_1377 rfl ?_
  refine AW.sarg 1 dL_1378 dL_1379 dL_1380 dL_1381 dL_1382 hi hL ?_
  refine AW.invQ1 dL_1383 mlL_166 mX12_count ly_57 rfl m2 (fun h2 s2 => ?_)
  exact AW.icmpS dL_1386 (nx h2 (k2 h2 s2))
