/-! ===== the law's helpers as pieces ===== -/
theorem tb732 : (Cond.methodLink "RootDiscsLaw" 7 ⟨"RootDiscs", "feed", "(IIIII)I"⟩) ∈ eTB := eTBi 841 (by decide +kernel) rfl
theorem tb733 : (Cond.instanceMethod ⟨"RootDiscs", "feed", "(IIIII)I"⟩) ∈ eTB := eTBi 842 (by decide +kernel) rfl
theorem tb734 : (Cond.selects "RootDiscs" ⟨"RootDiscs", "feed", "(IIIII)I"⟩ ⟨"RootDiscs", "feed", "(IIIII)I"⟩) ∈ eTB := eTBi 843 (by decide +kernel) rfl
theorem tb731 : (Cond.classLink "RootDiscsLaw" 13 "java/lang/IllegalStateException") ∈ eTB := eTBi 840 (by decide +kernel) rfl
theorem xb742 : (Cond.castable "java/lang/IllegalStateException" "java/lang/IllegalStateException") ∈ eXn := eXni 851 (by decide +kernel) rfl
theorem tb730 : (Cond.codeWith ⟨"RootDiscsLaw", "feed", "(LRootDiscs;IIIII[J)I"⟩ method_3_code 8 (Option.some Jvm.ClassFile.FieldType.int) [(0, 16, 19, 13)]) ∈ eTB := eTBi 839 (by decide +kernel) rfl
theorem tb0 : (Cond.initialized "RootDiscsLaw") ∈ eTB := eTBi 109 (by decide +kernel) rfl
theorem tb815 : (Cond.methodLink "RootDiscsLaw" 15 ⟨"RootDiscs", "truncate", "(I)I"⟩) ∈ eTB := eTBi 924 (by decide +kernel) rfl
theorem tb816 : (Cond.instanceMethod ⟨"RootDiscs", "truncate", "(I)I"⟩) ∈ eTB := eTBi 925 (by decide +kernel) rfl
theorem tb817 : (Cond.selects "RootDiscs" ⟨"RootDiscs", "truncate", "(I)I"⟩ ⟨"RootDiscs", "truncate", "(I)I"⟩) ∈ eTB := eTBi 926 (by decide +kernel) rfl
theorem tb814 : (Cond.classLink "RootDiscsLaw" 19 "java/lang/IllegalArgumentException") ∈ eTB := eTBi 923 (by decide +kernel) rfl
theorem xb821 : (Cond.castable "java/lang/IllegalArgumentException" "java/lang/IllegalArgumentException") ∈ eXn := eXni 930 (by decide +kernel) rfl
theorem tb813 : (Cond.codeWith ⟨"RootDiscsLaw", "truncate", "(LRootDiscs;I[J)I"⟩ method_4_code 4 (Option.some Jvm.ClassFile.FieldType.int) [(0, 9, 12, 19)]) ∈ eTB := eTBi 922 (by decide +kernel) rfl
theorem tb838 : (Cond.methodLink "RootDiscsLaw" 21 ⟨"RootDiscs", "readText", "()I"⟩) ∈ eTB := eTBi 947 (by decide +kernel) rfl
theorem tb839 : (Cond.instanceMethod ⟨"RootDiscs", "readText", "()I"⟩) ∈ eTB := eTBi 948 (by decide +kernel) rfl
theorem tb840 : (Cond.selects "RootDiscs" ⟨"RootDiscs", "readText", "()I"⟩ ⟨"RootDiscs", "readText", "()I"⟩) ∈ eTB := eTBi 949 (by decide +kernel) rfl
theorem tb837 : (Cond.codeWith ⟨"RootDiscsLaw", "readText", "(LRootDiscs;[J)I"⟩ method_5_code 3 (Option.some Jvm.ClassFile.FieldType.int) [(0, 8, 11, 19)]) ∈ eTB := eTBi 946 (by decide +kernel) rfl
theorem tb965 : (Cond.methodLink "RootDiscsLaw" 25 ⟨"RootDiscs", "runScript", "()I"⟩) ∈ eTB := eTBi 1074 (by decide +kernel) rfl
theorem tb966 : (Cond.instanceMethod ⟨"RootDiscs", "runScript", "()I"⟩) ∈ eTB := eTBi 1075 (by decide +kernel) rfl
theorem tb967 : (Cond.selects "RootDiscs" ⟨"RootDiscs", "runScript", "()I"⟩ ⟨"RootDiscs", "runScript", "()I"⟩) ∈ eTB := eTBi 1076 (by decide +kernel) rfl
theorem tb964 : (Cond.codeWith ⟨"RootDiscsLaw", "runScript", "(LRootDiscs;[J)I"⟩ method_6_code 3 (Option.some Jvm.ClassFile.FieldType.int) [(0, 8, 11, 19)]) ∈ eTB := eTBi 1073 (by decide +kernel) rfl
theorem tb1142 : (Cond.methodLink "RootDiscsLaw" 28 ⟨"RootDiscs", "coefficient", "(I)I"⟩) ∈ eTB := eTBi 1251 (by decide +kernel) rfl
theorem tb1143 : (Cond.instanceMethod ⟨"RootDiscs", "coefficient", "(I)I"⟩) ∈ eTB := eTBi 1252 (by decide +kernel) rfl
theorem tb1144 : (Cond.selects "RootDiscs" ⟨"RootDiscs", "coefficient", "(I)I"⟩ ⟨"RootDiscs", "coefficient", "(I)I"⟩) ∈ eTB := eTBi 1253 (by decide +kernel) rfl
theorem tb1141 : (Cond.classLink "RootDiscsLaw" 31 "java/lang/IndexOutOfBoundsException") ∈ eTB := eTBi 1250 (by decide +kernel) rfl
theorem xb1152 : (Cond.castable "java/lang/IndexOutOfBoundsException" "java/lang/IndexOutOfBoundsException") ∈ eXn := eXni 1261 (by decide +kernel) rfl
theorem tb1140 : (Cond.codeWith ⟨"RootDiscsLaw", "coefficient", "(LRootDiscs;I[J)I"⟩ method_7_code 4 (Option.some Jvm.ClassFile.FieldType.int) [(0, 9, 12, 31)]) ∈ eTB := eTBi 1249 (by decide +kernel) rfl
theorem tb1169 : (Cond.methodLink "RootDiscsLaw" 33 ⟨"RootDiscs", "firstCoefficient", "(I)I"⟩) ∈ eTB := eTBi 1278 (by decide +kernel) rfl
theorem tb1170 : (Cond.instanceMethod ⟨"RootDiscs", "firstCoefficient", "(I)I"⟩) ∈ eTB := eTBi 1279 (by decide +kernel) rfl
theorem tb1171 : (Cond.selects "RootDiscs" ⟨"RootDiscs", "firstCoefficient", "(I)I"⟩ ⟨"RootDiscs", "firstCoefficient", "(I)I"⟩) ∈ eTB := eTBi 1280 (by decide +kernel) rfl
theorem tb1168 : (Cond.codeWith ⟨"RootDiscsLaw", "firstCoefficient", "(LRootDiscs;I[J)I"⟩ method_8_code 4 (Option.some Jvm.ClassFile.FieldType.int) [(0, 9, 12, 31)]) ∈ eTB := eTBi 1277 (by decide +kernel) rfl
theorem tb1176 : (Cond.methodLink "RootDiscsLaw" 36 ⟨"RootDiscs", "valueAt", "(IIZ)J"⟩) ∈ eTB := eTBi 1285 (by decide +kernel) rfl
theorem tb1177 : (Cond.instanceMethod ⟨"RootDiscs", "valueAt", "(IIZ)J"⟩) ∈ eTB := eTBi 1286 (by decide +kernel) rfl
theorem tb1178 : (Cond.selects "RootDiscs" ⟨"RootDiscs", "valueAt", "(IIZ)J"⟩ ⟨"RootDiscs", "valueAt", "(IIZ)J"⟩) ∈ eTB := eTBi 1287 (by decide +kernel) rfl
theorem tb1175 : (Cond.codeWith ⟨"RootDiscsLaw", "valueAt", "(LRootDiscs;IIZ[J)I"⟩ method_9_code 6 (Option.some Jvm.ClassFile.FieldType.int) [(0, 11, 14, 19)]) ∈ eTB := eTBi 1284 (by decide +kernel) rfl
theorem tb1185 : (Cond.methodLink "RootDiscsLaw" 40 ⟨"RootDiscs", "slopeAt", "(IIZ)J"⟩) ∈ eTB := eTBi 1294 (by decide +kernel) rfl
theorem tb1186 : (Cond.instanceMethod ⟨"RootDiscs", "slopeAt", "(IIZ)J"⟩) ∈ eTB := eTBi 1295 (by decide +kernel) rfl
theorem tb1187 : (Cond.selects "RootDiscs" ⟨"RootDiscs", "slopeAt", "(IIZ)J"⟩ ⟨"RootDiscs", "slopeAt", "(IIZ)J"⟩) ∈ eTB := eTBi 1296 (by decide +kernel) rfl
theorem tb1184 : (Cond.codeWith ⟨"RootDiscsLaw", "slopeAt", "(LRootDiscs;IIZ[J)I"⟩ method_10_code 6 (Option.some Jvm.ClassFile.FieldType.int) [(0, 11, 14, 19)]) ∈ eTB := eTBi 1293 (by decide +kernel) rfl
theorem tb1192 : (Cond.methodLink "RootDiscsLaw" 43 ⟨"RootDiscs", "edge", "(II)I"⟩) ∈ eTB := eTBi 1301 (by decide +kernel) rfl
theorem tb1193 : (Cond.instanceMethod ⟨"RootDiscs", "edge", "(II)I"⟩) ∈ eTB := eTBi 1302 (by decide +kernel) rfl
theorem tb1194 : (Cond.selects "RootDiscs" ⟨"RootDiscs", "edge", "(II)I"⟩ ⟨"RootDiscs", "edge", "(II)I"⟩) ∈ eTB := eTBi 1303 (by decide +kernel) rfl
theorem tb1191 : (Cond.codeWith ⟨"RootDiscsLaw", "edge", "(LRootDiscs;II[J)I"⟩ method_11_code 5 (Option.some Jvm.ClassFile.FieldType.int) [(0, 10, 13, 31), (0, 10, 17, 19)]) ∈ eTB := eTBi 1300 (by decide +kernel) rfl
theorem tb1207 : (Cond.methodLink "RootDiscsLaw" 47 ⟨"RootDiscs", "point", "(II)I"⟩) ∈ eTB := eTBi 1316 (by decide +kernel) rfl
theorem tb1208 : (Cond.instanceMethod ⟨"RootDiscs", "point", "(II)I"⟩) ∈ eTB := eTBi 1317 (by decide +kernel) rfl
theorem tb1209 : (Cond.selects "RootDiscs" ⟨"RootDiscs", "point", "(II)I"⟩ ⟨"RootDiscs", "point", "(II)I"⟩) ∈ eTB := eTBi 1318 (by decide +kernel) rfl
theorem tb1206 : (Cond.codeWith ⟨"RootDiscsLaw", "point", "(LRootDiscs;II[J)I"⟩ method_12_code 5 (Option.some Jvm.ClassFile.FieldType.int) [(0, 10, 13, 31), (0, 10, 17, 19)]) ∈ eTB := eTBi 1315 (by decide +kernel) rfl
theorem tb1217 : (Cond.methodLink "RootDiscsLaw" 50 ⟨"RootDiscs", "value", "(IZ)J"⟩) ∈ eTB := eTBi 1326 (by decide +kernel) rfl
theorem tb1218 : (Cond.instanceMethod ⟨"RootDiscs", "value", "(IZ)J"⟩) ∈ eTB := eTBi 1327 (by decide +kernel) rfl
theorem tb1219 : (Cond.selects "RootDiscs" ⟨"RootDiscs", "value", "(IZ)J"⟩ ⟨"RootDiscs", "value", "(IZ)J"⟩) ∈ eTB := eTBi 1328 (by decide +kernel) rfl
theorem tb1216 : (Cond.codeWith ⟨"RootDiscsLaw", "value", "(LRootDiscs;IZ[J)I"⟩ method_13_code 5 (Option.some Jvm.ClassFile.FieldType.int) [(0, 9, 12, 31)]) ∈ eTB := eTBi 1325 (by decide +kernel) rfl
theorem tb1224 : (Cond.methodLink "RootDiscsLaw" 54 ⟨"RootDiscs", "product", "(IZ)J"⟩) ∈ eTB := eTBi 1333 (by decide +kernel) rfl
theorem tb1225 : (Cond.instanceMethod ⟨"RootDiscs", "product", "(IZ)J"⟩) ∈ eTB := eTBi 1334 (by decide +kernel) rfl
theorem tb1226 : (Cond.selects "RootDiscs" ⟨"RootDiscs", "product", "(IZ)J"⟩ ⟨"RootDiscs", "product", "(IZ)J"⟩) ∈ eTB := eTBi 1335 (by decide +kernel) rfl
theorem tb1223 : (Cond.codeWith ⟨"RootDiscsLaw", "product", "(LRootDiscs;IZ[J)I"⟩ method_14_code 5 (Option.some Jvm.ClassFile.FieldType.int) [(0, 9, 12, 31)]) ∈ eTB := eTBi 1332 (by decide +kernel) rfl
theorem tb1231 : (Cond.methodLink "RootDiscsLaw" 57 ⟨"RootDiscs", "span", "(I)J"⟩) ∈ eTB := eTBi 1340 (by decide +kernel) rfl
theorem tb1232 : (Cond.instanceMethod ⟨"RootDiscs", "span", "(I)J"⟩) ∈ eTB := eTBi 1341 (by decide +kernel) rfl
theorem tb1233 : (Cond.selects "RootDiscs" ⟨"RootDiscs", "span", "(I)J"⟩ ⟨"RootDiscs", "span", "(I)J"⟩) ∈ eTB := eTBi 1342 (by decide +kernel) rfl
theorem tb1230 : (Cond.codeWith ⟨"RootDiscsLaw", "span", "(LRootDiscs;I[J)I"⟩ method_15_code 4 (Option.some Jvm.ClassFile.FieldType.int) [(0, 8, 11, 31)]) ∈ eTB := eTBi 1339 (by decide +kernel) rfl
theorem tb1239 : (Cond.methodLink "RootDiscsLaw" 61 ⟨"RootDiscs", "step", "(IZ)I"⟩) ∈ eTB := eTBi 1348 (by decide +kernel) rfl
theorem tb1240 : (Cond.instanceMethod ⟨"RootDiscs", "step", "(IZ)I"⟩) ∈ eTB := eTBi 1349 (by decide +kernel) rfl
theorem tb1241 : (Cond.selects "RootDiscs" ⟨"RootDiscs", "step", "(IZ)I"⟩ ⟨"RootDiscs", "step", "(IZ)I"⟩) ∈ eTB := eTBi 1350 (by decide +kernel) rfl
theorem tb1238 : (Cond.codeWith ⟨"RootDiscsLaw", "step", "(LRootDiscs;IZ[J)I"⟩ method_16_code 5 (Option.some Jvm.ClassFile.FieldType.int) [(0, 10, 13, 31)]) ∈ eTB := eTBi 1347 (by decide +kernel) rfl
theorem tb1247 : (Cond.methodLink "RootDiscsLaw" 65 ⟨"RootDiscs", "touch", "(II)Z"⟩) ∈ eTB := eTBi 1356 (by decide +kernel) rfl
theorem tb1248 : (Cond.instanceMethod ⟨"RootDiscs", "touch", "(II)Z"⟩) ∈ eTB := eTBi 1357 (by decide +kernel) rfl
theorem tb1249 : (Cond.selects "RootDiscs" ⟨"RootDiscs", "touch", "(II)Z"⟩ ⟨"RootDiscs", "touch", "(II)Z"⟩) ∈ eTB := eTBi 1358 (by decide +kernel) rfl
theorem tb1246 : (Cond.codeWith ⟨"RootDiscsLaw", "touch", "(LRootDiscs;II[J)I"⟩ method_17_code 5 (Option.some Jvm.ClassFile.FieldType.int) [(0, 17, 20, 31)]) ∈ eTB := eTBi 1355 (by decide +kernel) rfl
theorem tb1255 : (Cond.methodLink "RootDiscsLaw" 69 ⟨"RootDiscs", "cluster", "(I)I"⟩) ∈ eTB := eTBi 1364 (by decide +kernel) rfl
theorem tb1256 : (Cond.instanceMethod ⟨"RootDiscs", "cluster", "(I)I"⟩) ∈ eTB := eTBi 1365 (by decide +kernel) rfl
theorem tb1257 : (Cond.selects "RootDiscs" ⟨"RootDiscs", "cluster", "(I)I"⟩ ⟨"RootDiscs", "cluster", "(I)I"⟩) ∈ eTB := eTBi 1366 (by decide +kernel) rfl
theorem tb1254 : (Cond.codeWith ⟨"RootDiscsLaw", "cluster", "(LRootDiscs;I[J)I"⟩ method_18_code 4 (Option.some Jvm.ClassFile.FieldType.int) [(0, 9, 12, 31)]) ∈ eTB := eTBi 1363 (by decide +kernel) rfl
theorem tb1263 : (Cond.methodLink "RootDiscsLaw" 72 ⟨"RootDiscs", "rootsIn", "(IIIIZ)I"⟩) ∈ eTB := eTBi 1372 (by decide +kernel) rfl
theorem tb1264 : (Cond.instanceMethod ⟨"RootDiscs", "rootsIn", "(IIIIZ)I"⟩) ∈ eTB := eTBi 1373 (by decide +kernel) rfl
theorem tb1265 : (Cond.selects "RootDiscs" ⟨"RootDiscs", "rootsIn", "(IIIIZ)I"⟩ ⟨"RootDiscs", "rootsIn", "(IIIIZ)I"⟩) ∈ eTB := eTBi 1374 (by decide +kernel) rfl
theorem tb1262 : (Cond.codeWith ⟨"RootDiscsLaw", "rootsIn", "(LRootDiscs;IIIIZ[J)I"⟩ method_19_code 8 (Option.some Jvm.ClassFile.FieldType.int) [(0, 16, 19, 19)]) ∈ eTB := eTBi 1371 (by decide +kernel) rfl
theorem tb1282 : (Cond.methodLink "RootDiscsLaw" 76 ⟨"RootDiscs", "whyNotDivide", "(I)I"⟩) ∈ eTB := eTBi 1391 (by decide +kernel) rfl
theorem tb1283 : (Cond.instanceMethod ⟨"RootDiscs", "whyNotDivide", "(I)I"⟩) ∈ eTB := eTBi 1392 (by decide +kernel) rfl
theorem tb1284 : (Cond.selects "RootDiscs" ⟨"RootDiscs", "whyNotDivide", "(I)I"⟩ ⟨"RootDiscs", "whyNotDivide", "(I)I"⟩) ∈ eTB := eTBi 1393 (by decide +kernel) rfl
theorem tb1281 : (Cond.codeWith ⟨"RootDiscsLaw", "whyNotDivide", "(LRootDiscs;I[J)I"⟩ method_20_code 4 (Option.some Jvm.ClassFile.FieldType.int) [(0, 9, 12, 19)]) ∈ eTB := eTBi 1390 (by decide +kernel) rfl
theorem tb1290 : (Cond.methodLink "RootDiscsLaw" 79 ⟨"RootDiscs", "whyNotDividePair", "(II)I"⟩) ∈ eTB := eTBi 1399 (by decide +kernel) rfl
theorem tb1291 : (Cond.instanceMethod ⟨"RootDiscs", "whyNotDividePair", "(II)I"⟩) ∈ eTB := eTBi 1400 (by decide +kernel) rfl
theorem tb1292 : (Cond.selects "RootDiscs" ⟨"RootDiscs", "whyNotDividePair", "(II)I"⟩ ⟨"RootDiscs", "whyNotDividePair", "(II)I"⟩) ∈ eTB := eTBi 1401 (by decide +kernel) rfl
theorem tb1289 : (Cond.codeWith ⟨"RootDiscsLaw", "whyNotDividePair", "(LRootDiscs;II[J)I"⟩ method_21_code 5 (Option.some Jvm.ClassFile.FieldType.int) [(0, 10, 13, 19)]) ∈ eTB := eTBi 1398 (by decide +kernel) rfl
theorem tb1297 : (Cond.methodLink "RootDiscsLaw" 82 ⟨"RootDiscs", "debt", "(II)I"⟩) ∈ eTB := eTBi 1406 (by decide +kernel) rfl
theorem tb1298 : (Cond.instanceMethod ⟨"RootDiscs", "debt", "(II)I"⟩) ∈ eTB := eTBi 1407 (by decide +kernel) rfl
theorem tb1299 : (Cond.selects "RootDiscs" ⟨"RootDiscs", "debt", "(II)I"⟩ ⟨"RootDiscs", "debt", "(II)I"⟩) ∈ eTB := eTBi 1408 (by decide +kernel) rfl
theorem tb1296 : (Cond.codeWith ⟨"RootDiscsLaw", "debt", "(LRootDiscs;II[J)I"⟩ method_22_code 5 (Option.some Jvm.ClassFile.FieldType.int) [(0, 10, 13, 31), (0, 10, 17, 19)]) ∈ eTB := eTBi 1405 (by decide +kernel) rfl
theorem tb1308 : (Cond.methodLink "RootDiscsLaw" 85 ⟨"RootDiscs", "recombined", "(I)I"⟩) ∈ eTB := eTBi 1417 (by decide +kernel) rfl
theorem tb1309 : (Cond.instanceMethod ⟨"RootDiscs", "recombined", "(I)I"⟩) ∈ eTB := eTBi 1418 (by decide +kernel) rfl
theorem tb1310 : (Cond.selects "RootDiscs" ⟨"RootDiscs", "recombined", "(I)I"⟩ ⟨"RootDiscs", "recombined", "(I)I"⟩) ∈ eTB := eTBi 1419 (by decide +kernel) rfl
theorem tb1307 : (Cond.codeWith ⟨"RootDiscsLaw", "recombined", "(LRootDiscs;I[J)I"⟩ method_23_code 4 (Option.some Jvm.ClassFile.FieldType.int) [(0, 9, 12, 31)]) ∈ eTB := eTBi 1416 (by decide +kernel) rfl
theorem tb1325 : (Cond.methodLink "RootDiscsLaw" 88 ⟨"RootDiscs", "sweepsToSettle", "(I)I"⟩) ∈ eTB := eTBi 1434 (by decide +kernel) rfl
theorem tb1326 : (Cond.instanceMethod ⟨"RootDiscs", "sweepsToSettle", "(I)I"⟩) ∈ eTB := eTBi 1435 (by decide +kernel) rfl
theorem tb1327 : (Cond.selects "RootDiscs" ⟨"RootDiscs", "sweepsToSettle", "(I)I"⟩ ⟨"RootDiscs", "sweepsToSettle", "(I)I"⟩) ∈ eTB := eTBi 1436 (by decide +kernel) rfl
theorem tb1324 : (Cond.codeWith ⟨"RootDiscsLaw", "sweepsToSettle", "(LRootDiscs;I[J)I"⟩ method_24_code 4 (Option.some Jvm.ClassFile.FieldType.int) [(0, 9, 12, 19)]) ∈ eTB := eTBi 1433 (by decide +kernel) rfl
theorem tb1333 : (Cond.methodLink "RootDiscsLaw" 91 ⟨"RootDiscs", "refine", "(I)I"⟩) ∈ eTB := eTBi 1442 (by decide +kernel) rfl
theorem tb1334 : (Cond.instanceMethod ⟨"RootDiscs", "refine", "(I)I"⟩) ∈ eTB := eTBi 1443 (by decide +kernel) rfl
theorem tb1335 : (Cond.selects "RootDiscs" ⟨"RootDiscs", "refine", "(I)I"⟩ ⟨"RootDiscs", "refine", "(I)I"⟩) ∈ eTB := eTBi 1444 (by decide +kernel) rfl
theorem tb1332 : (Cond.codeWith ⟨"RootDiscsLaw", "refine", "(LRootDiscs;I[J)I"⟩ method_25_code 4 (Option.some Jvm.ClassFile.FieldType.int) [(0, 9, 12, 31)]) ∈ eTB := eTBi 1441 (by decide +kernel) rfl
theorem tb1340 : (Cond.methodLink "RootDiscsLaw" 94 ⟨"RootDiscs", "run", "(I)I"⟩) ∈ eTB := eTBi 1449 (by decide +kernel) rfl
theorem tb1341 : (Cond.instanceMethod ⟨"RootDiscs", "run", "(I)I"⟩) ∈ eTB := eTBi 1450 (by decide +kernel) rfl
theorem tb1342 : (Cond.selects "RootDiscs" ⟨"RootDiscs", "run", "(I)I"⟩ ⟨"RootDiscs", "run", "(I)I"⟩) ∈ eTB := eTBi 1451 (by decide +kernel) rfl
theorem tb1339 : (Cond.codeWith ⟨"RootDiscsLaw", "run", "(LRootDiscs;I[J)I"⟩ method_26_code 4 (Option.some Jvm.ClassFile.FieldType.int) [(0, 9, 12, 19)]) ∈ eTB := eTBi 1448 (by decide +kernel) rfl
theorem tb1348 : (Cond.methodLink "RootDiscsLaw" 97 ⟨"RootDiscs", "spread", "(I)I"⟩) ∈ eTB := eTBi 1457 (by decide +kernel) rfl
theorem tb1349 : (Cond.instanceMethod ⟨"RootDiscs", "spread", "(I)I"⟩) ∈ eTB := eTBi 1458 (by decide +kernel) rfl
theorem tb1350 : (Cond.selects "RootDiscs" ⟨"RootDiscs", "spread", "(I)I"⟩ ⟨"RootDiscs", "spread", "(I)I"⟩) ∈ eTB := eTBi 1459 (by decide +kernel) rfl
theorem tb1347 : (Cond.codeWith ⟨"RootDiscsLaw", "spread", "(LRootDiscs;I[J)I"⟩ method_27_code 4 (Option.some Jvm.ClassFile.FieldType.int) [(0, 9, 12, 19)]) ∈ eTB := eTBi 1456 (by decide +kernel) rfl
theorem tb1355 : (Cond.methodLink "RootDiscsLaw" 100 ⟨"RootDiscs", "move", "(III)I"⟩) ∈ eTB := eTBi 1464 (by decide +kernel) rfl
theorem tb1356 : (Cond.instanceMethod ⟨"RootDiscs", "move", "(III)I"⟩) ∈ eTB := eTBi 1465 (by decide +kernel) rfl
theorem tb1357 : (Cond.selects "RootDiscs" ⟨"RootDiscs", "move", "(III)I"⟩ ⟨"RootDiscs", "move", "(III)I"⟩) ∈ eTB := eTBi 1466 (by decide +kernel) rfl
theorem tb1354 : (Cond.codeWith ⟨"RootDiscsLaw", "move", "(LRootDiscs;III[J)I"⟩ method_28_code 6 (Option.some Jvm.ClassFile.FieldType.int) [(0, 12, 15, 31), (0, 12, 19, 19), (0, 12, 23, 13)]) ∈ eTB := eTBi 1463 (by decide +kernel) rfl
theorem tb1363 : (Cond.methodLink "RootDiscsLaw" 104 ⟨"RootDiscs", "join", "(I)I"⟩) ∈ eTB := eTBi 1472 (by decide +kernel) rfl
theorem tb1364 : (Cond.instanceMethod ⟨"RootDiscs", "join", "(I)I"⟩) ∈ eTB := eTBi 1473 (by decide +kernel) rfl
theorem tb1365 : (Cond.selects "RootDiscs" ⟨"RootDiscs", "join", "(I)I"⟩ ⟨"RootDiscs", "join", "(I)I"⟩) ∈ eTB := eTBi 1474 (by decide +kernel) rfl
theorem tb1362 : (Cond.codeWith ⟨"RootDiscsLaw", "join", "(LRootDiscs;I[J)I"⟩ method_29_code 4 (Option.some Jvm.ClassFile.FieldType.int) [(0, 9, 12, 31), (0, 9, 15, 13)]) ∈ eTB := eTBi 1471 (by decide +kernel) rfl
theorem tb1379 : (Cond.methodLink "RootDiscsLaw" 107 ⟨"RootDiscs", "part", "(I)I"⟩) ∈ eTB := eTBi 1488 (by decide +kernel) rfl
theorem tb1380 : (Cond.instanceMethod ⟨"RootDiscs", "part", "(I)I"⟩) ∈ eTB := eTBi 1489 (by decide +kernel) rfl
theorem tb1381 : (Cond.selects "RootDiscs" ⟨"RootDiscs", "part", "(I)I"⟩ ⟨"RootDiscs", "part", "(I)I"⟩) ∈ eTB := eTBi 1490 (by decide +kernel) rfl
theorem tb1378 : (Cond.codeWith ⟨"RootDiscsLaw", "part", "(LRootDiscs;I[J)I"⟩ method_30_code 4 (Option.some Jvm.ClassFile.FieldType.int) [(0, 9, 12, 31), (0, 9, 15, 13)]) ∈ eTB := eTBi 1487 (by decide +kernel) rfl
theorem tb1389 : (Cond.methodLink "RootDiscsLaw" 110 ⟨"RootDiscs", "divide", "(I)I"⟩) ∈ eTB := eTBi 1498 (by decide +kernel) rfl
theorem tb1390 : (Cond.instanceMethod ⟨"RootDiscs", "divide", "(I)I"⟩) ∈ eTB := eTBi 1499 (by decide +kernel) rfl
theorem tb1391 : (Cond.selects "RootDiscs" ⟨"RootDiscs", "divide", "(I)I"⟩ ⟨"RootDiscs", "divide", "(I)I"⟩) ∈ eTB := eTBi 1500 (by decide +kernel) rfl
theorem tb1388 : (Cond.codeWith ⟨"RootDiscsLaw", "divide", "(LRootDiscs;I[J)I"⟩ method_31_code 4 (Option.some Jvm.ClassFile.FieldType.int) [(0, 9, 12, 19), (0, 9, 15, 13)]) ∈ eTB := eTBi 1497 (by decide +kernel) rfl
theorem tb1397 : (Cond.methodLink "RootDiscsLaw" 113 ⟨"RootDiscs", "dividePair", "(II)I"⟩) ∈ eTB := eTBi 1506 (by decide +kernel) rfl
theorem tb1398 : (Cond.instanceMethod ⟨"RootDiscs", "dividePair", "(II)I"⟩) ∈ eTB := eTBi 1507 (by decide +kernel) rfl
theorem tb1399 : (Cond.selects "RootDiscs" ⟨"RootDiscs", "dividePair", "(II)I"⟩ ⟨"RootDiscs", "dividePair", "(II)I"⟩) ∈ eTB := eTBi 1508 (by decide +kernel) rfl
theorem tb1396 : (Cond.codeWith ⟨"RootDiscsLaw", "dividePair", "(LRootDiscs;II[J)I"⟩ method_32_code 5 (Option.some Jvm.ClassFile.FieldType.int) [(0, 10, 13, 19), (0, 10, 17, 13)]) ∈ eTB := eTBi 1505 (by decide +kernel) rfl
theorem tb1404 : (Cond.methodLink "RootDiscsLaw" 116 ⟨"RootDiscs", "setGoal", "(I)I"⟩) ∈ eTB := eTBi 1513 (by decide +kernel) rfl
theorem tb1405 : (Cond.instanceMethod ⟨"RootDiscs", "setGoal", "(I)I"⟩) ∈ eTB := eTBi 1514 (by decide +kernel) rfl
theorem tb1406 : (Cond.selects "RootDiscs" ⟨"RootDiscs", "setGoal", "(I)I"⟩ ⟨"RootDiscs", "setGoal", "(I)I"⟩) ∈ eTB := eTBi 1515 (by decide +kernel) rfl
theorem tb1403 : (Cond.codeWith ⟨"RootDiscsLaw", "setGoal", "(LRootDiscs;I[J)I"⟩ method_33_code 4 (Option.some Jvm.ClassFile.FieldType.int) [(0, 9, 12, 19)]) ∈ eTB := eTBi 1512 (by decide +kernel) rfl
theorem tb1412 : (Cond.methodLink "RootDiscsLaw" 119 ⟨"RootDiscs", "reportByte", "(I)I"⟩) ∈ eTB := eTBi 1521 (by decide +kernel) rfl
theorem tb1413 : (Cond.instanceMethod ⟨"RootDiscs", "reportByte", "(I)I"⟩) ∈ eTB := eTBi 1522 (by decide +kernel) rfl
theorem tb1414 : (Cond.selects "RootDiscs" ⟨"RootDiscs", "reportByte", "(I)I"⟩ ⟨"RootDiscs", "reportByte", "(I)I"⟩) ∈ eTB := eTBi 1523 (by decide +kernel) rfl
theorem tb1411 : (Cond.codeWith ⟨"RootDiscsLaw", "reportByte", "(LRootDiscs;I[J)I"⟩ method_34_code 4 (Option.some Jvm.ClassFile.FieldType.int) [(0, 9, 12, 31)]) ∈ eTB := eTBi 1520 (by decide +kernel) rfl
theorem tb1420 : (Cond.methodLink "RootDiscsLaw" 122 ⟨"RootDiscs", "restore", "()I"⟩) ∈ eTB := eTBi 1529 (by decide +kernel) rfl
theorem tb1421 : (Cond.instanceMethod ⟨"RootDiscs", "restore", "()I"⟩) ∈ eTB := eTBi 1530 (by decide +kernel) rfl
theorem tb1422 : (Cond.selects "RootDiscs" ⟨"RootDiscs", "restore", "()I"⟩ ⟨"RootDiscs", "restore", "()I"⟩) ∈ eTB := eTBi 1531 (by decide +kernel) rfl
theorem tb1419 : (Cond.codeWith ⟨"RootDiscsLaw", "restore", "(LRootDiscs;[J)I"⟩ method_35_code 3 (Option.some Jvm.ClassFile.FieldType.int) [(0, 8, 11, 13)]) ∈ eTB := eTBi 1528 (by decide +kernel) rfl
def yH_feed : MethodName := ⟨RL, "feed", "(LRootDiscs;IIIII[J)I"⟩
def hhH_feed : List (Nat × Nat × Nat × Nat) := [(0, 16, 19, 13)]
def hdH_feed : List eHn := [("java/lang/IllegalStateException", 19, 21, 7)]
theorem hkH_feed : ∀ q ∈ hdH_feed, hOK RL hhH_feed 11 q := (List.forall_mem_cons.mpr ⟨⟨⟨[], ⟨0, 16, 19, 13⟩, [], rfl, (fun z hz => absurd hz List.not_mem_nil), by decide, by decide, rfl, tb731⟩, xb742⟩, (fun q hq => absurd hq List.not_mem_nil)⟩)
def gH_feed : sP (sTb hhH_feed) (RL, false, true, 8) := (sSeq (sBlk 23 (sSeq (sBlk 21 (sSeq (sE (p_aload 0 6))
(sSeq (sE (p_iconst 2 (0)))
(sSeq (sE (p_aload_n 3 0))
(sSeq (sE (p_iload_n 4 1))
(sSeq (sE (p_iload_n 5 2))
(sSeq (sE (p_iload_n 6 3))
(sSeq (sE (p_iload 7 4))
(sSeq (sE (p_iload 9 5))
(sSeq (p_try (hh := hhH_feed) 11 6 (.invokevirtual 7) _ mX12_feed (eLnkV (ci := 10) (by decide) rfl tb732 tb733 tb734 (by decide +kernel)) hdH_feed hkH_feed)
(sSeq (sE (p_i2l 14))
(sSeq (sE (p_last 15))
(sSeq (sE (p_goto 16 (7) 23 (by decide)))
(sE (p_stuck 19 21)))))))))))))))
(sSeq (sE (p_iconst 21 (1)))
(sE (p_ireturn 22 23)))))
(sSeq (sE (p_iconst 23 (0)))
(sE (p_ireturn 24 25))))
def mH_feed : eHt hhH_feed := eMakeH yH_feed method_3_code 8 (some .int) gH_feed tb730 tb0 (by decide +kernel) (by decide +kernel)
theorem mH_feed_c : hCall mH_feed = sGo (some .int) gH_feed := rfl

def yH_truncate : MethodName := ⟨RL, "truncate", "(LRootDiscs;I[J)I"⟩
def hhH_truncate : List (Nat × Nat × Nat × Nat) := [(0, 9, 12, 19)]
def hdH_truncate : List eHn := [("java/lang/IllegalArgumentException", 12, 13, 3)]
theorem hkH_truncate : ∀ q ∈ hdH_truncate, hOK RL hhH_truncate 4 q := (List.forall_mem_cons.mpr ⟨⟨⟨[], ⟨0, 9, 12, 19⟩, [], rfl, (fun z hz => absurd hz List.not_mem_nil), by decide, by decide, rfl, tb814⟩, xb821⟩, (fun q hq => absurd hq List.not_mem_nil)⟩)
def gH_truncate : sP (sTb hhH_truncate) (RL, false, true, 4) := (sSeq (sBlk 15 (sSeq (sBlk 13 (sSeq (sE (p_aload_n 0 2))
(sSeq (sE (p_iconst 1 (0)))
(sSeq (sE (p_aload_n 2 0))
(sSeq (sE (p_iload_n 3 1))
(sSeq (p_try (hh := hhH_truncate) 4 2 (.invokevirtual 15) _ mX12_truncate (eLnkV (ci := 10) (by decide) rfl tb815 tb816 tb817 (by decide +kernel)) hdH_truncate hkH_truncate)
(sSeq (sE (p_i2l 7))
(sSeq (sE (p_last 8))
(sSeq (sE (p_goto 9 (6) 15 (by decide)))
(sE (p_stuck 12 13)))))))))))
(sSeq (sE (p_iconst 13 (1)))
(sE (p_ireturn 14 15)))))
(sSeq (sE (p_iconst 15 (0)))
(sE (p_ireturn 16 17))))
def mH_truncate : eHt hhH_truncate := eMakeH yH_truncate method_4_code 4 (some .int) gH_truncate tb813 tb0 (by decide +kernel) (by decide +kernel)
theorem mH_truncate_c : hCall mH_truncate = sGo (some .int) gH_truncate := rfl

def yH_readText : MethodName := ⟨RL, "readText", "(LRootDiscs;[J)I"⟩
def hhH_readText : List (Nat × Nat × Nat × Nat) := [(0, 8, 11, 19)]
def hdH_readText : List eHn := [("java/lang/IllegalArgumentException", 11, 12, 2)]
theorem hkH_readText : ∀ q ∈ hdH_readText, hOK RL hhH_readText 3 q := (List.forall_mem_cons.mpr ⟨⟨⟨[], ⟨0, 8, 11, 19⟩, [], rfl, (fun z hz => absurd hz List.not_mem_nil), by decide, by decide, rfl, tb814⟩, xb821⟩, (fun q hq => absurd hq List.not_mem_nil)⟩)
def gH_readText : sP (sTb hhH_readText) (RL, false, true, 3) := (sSeq (sBlk 14 (sSeq (sBlk 12 (sSeq (sE (p_aload_n 0 1))
(sSeq (sE (p_iconst 1 (0)))
(sSeq (sE (p_aload_n 2 0))
(sSeq (p_try (hh := hhH_readText) 3 1 (.invokevirtual 21) _ mX12_readText (eLnkV (ci := 10) (by decide) rfl tb838 tb839 tb840 (by decide +kernel)) hdH_readText hkH_readText)
(sSeq (sE (p_i2l 6))
(sSeq (sE (p_last 7))
(sSeq (sE (p_goto 8 (6) 14 (by decide)))
(sE (p_stuck 11 12))))))))))
(sSeq (sE (p_iconst 12 (1)))
(sE (p_ireturn 13 14)))))
(sSeq (sE (p_iconst 14 (0)))
(sE (p_ireturn 15 16))))
def mH_readText : eHt hhH_readText := eMakeH yH_readText method_5_code 3 (some .int) gH_readText tb837 tb0 (by decide +kernel) (by decide +kernel)
theorem mH_readText_c : hCall mH_readText = sGo (some .int) gH_readText := rfl

def yH_runScript : MethodName := ⟨RL, "runScript", "(LRootDiscs;[J)I"⟩
def hhH_runScript : List (Nat × Nat × Nat × Nat) := [(0, 8, 11, 19)]
def hdH_runScript : List eHn := [("java/lang/IllegalArgumentException", 11, 12, 2)]
theorem hkH_runScript : ∀ q ∈ hdH_runScript, hOK RL hhH_runScript 3 q := (List.forall_mem_cons.mpr ⟨⟨⟨[], ⟨0, 8, 11, 19⟩, [], rfl, (fun z hz => absurd hz List.not_mem_nil), by decide, by decide, rfl, tb814⟩, xb821⟩, (fun q hq => absurd hq List.not_mem_nil)⟩)
def gH_runScript : sP (sTb hhH_runScript) (RL, false, true, 3) := (sSeq (sBlk 14 (sSeq (sBlk 12 (sSeq (sE (p_aload_n 0 1))
(sSeq (sE (p_iconst 1 (0)))
(sSeq (sE (p_aload_n 2 0))
(sSeq (p_try (hh := hhH_runScript) 3 1 (.invokevirtual 25) _ mX12_runScript (eLnkV (ci := 10) (by decide) rfl tb965 tb966 tb967 (by decide +kernel)) hdH_runScript hkH_runScript)
(sSeq (sE (p_i2l 6))
(sSeq (sE (p_last 7))
(sSeq (sE (p_goto 8 (6) 14 (by decide)))
(sE (p_stuck 11 12))))))))))
(sSeq (sE (p_iconst 12 (1)))
(sE (p_ireturn 13 14)))))
(sSeq (sE (p_iconst 14 (0)))
(sE (p_ireturn 15 16))))
def mH_runScript : eHt hhH_runScript := eMakeH yH_runScript method_6_code 3 (some .int) gH_runScript tb964 tb0 (by decide +kernel) (by decide +kernel)
theorem mH_runScript_c : hCall mH_runScript = sGo (some .int) gH_runScript := rfl

def yH_coefficient : MethodName := ⟨RL, "coefficient", "(LRootDiscs;I[J)I"⟩
def hhH_coefficient : List (Nat × Nat × Nat × Nat) := [(0, 9, 12, 31)]
def hdH_coefficient : List eHn := [("java/lang/IndexOutOfBoundsException", 12, 13, 3)]
theorem hkH_coefficient : ∀ q ∈ hdH_coefficient, hOK RL hhH_coefficient 4 q := (List.forall_mem_cons.mpr ⟨⟨⟨[], ⟨0, 9, 12, 31⟩, [], rfl, (fun z hz => absurd hz List.not_mem_nil), by decide, by decide, rfl, tb1141⟩, xb1152⟩, (fun q hq => absurd hq List.not_mem_nil)⟩)
def gH_coefficient : sP (sTb hhH_coefficient) (RL, false, true, 4) := (sSeq (sBlk 15 (sSeq (sBlk 13 (sSeq (sE (p_aload_n 0 2))
(sSeq (sE (p_iconst 1 (0)))
(sSeq (sE (p_aload_n 2 0))
(sSeq (sE (p_iload_n 3 1))
(sSeq (p_try (hh := hhH_coefficient) 4 2 (.invokevirtual 28) _ mX12_coefficient (eLnkV (ci := 10) (by decide) rfl tb1142 tb1143 tb1144 (by decide +kernel)) hdH_coefficient hkH_coefficient)
(sSeq (sE (p_i2l 7))
(sSeq (sE (p_last 8))
(sSeq (sE (p_goto 9 (6) 15 (by decide)))
(sE (p_stuck 12 13)))))))))))
(sSeq (sE (p_iconst 13 (1)))
(sE (p_ireturn 14 15)))))
(sSeq (sE (p_iconst 15 (0)))
(sE (p_ireturn 16 17))))
def mH_coefficient : eHt hhH_coefficient := eMakeH yH_coefficient method_7_code 4 (some .int) gH_coefficient tb1140 tb0 (by decide +kernel) (by decide +kernel)
theorem mH_coefficient_c : hCall mH_coefficient = sGo (some .int) gH_coefficient := rfl

def yH_firstCoefficient : MethodName := ⟨RL, "firstCoefficient", "(LRootDiscs;I[J)I"⟩
def hhH_firstCoefficient : List (Nat × Nat × Nat × Nat) := [(0, 9, 12, 31)]
def hdH_firstCoefficient : List eHn := [("java/lang/IndexOutOfBoundsException", 12, 13, 3)]
theorem hkH_firstCoefficient : ∀ q ∈ hdH_firstCoefficient, hOK RL hhH_firstCoefficient 4 q := (List.forall_mem_cons.mpr ⟨⟨⟨[], ⟨0, 9, 12, 31⟩, [], rfl, (fun z hz => absurd hz List.not_mem_nil), by decide, by decide, rfl, tb1141⟩, xb1152⟩, (fun q hq => absurd hq List.not_mem_nil)⟩)
def gH_firstCoefficient : sP (sTb hhH_firstCoefficient) (RL, false, true, 4) := (sSeq (sBlk 15 (sSeq (sBlk 13 (sSeq (sE (p_aload_n 0 2))
(sSeq (sE (p_iconst 1 (0)))
(sSeq (sE (p_aload_n 2 0))
(sSeq (sE (p_iload_n 3 1))
(sSeq (p_try (hh := hhH_firstCoefficient) 4 2 (.invokevirtual 33) _ mX12_firstCoefficient (eLnkV (ci := 10) (by decide) rfl tb1169 tb1170 tb1171 (by decide +kernel)) hdH_firstCoefficient hkH_firstCoefficient)
(sSeq (sE (p_i2l 7))
(sSeq (sE (p_last 8))
(sSeq (sE (p_goto 9 (6) 15 (by decide)))
(sE (p_stuck 12 13)))))))))))
(sSeq (sE (p_iconst 13 (1)))
(sE (p_ireturn 14 15)))))
(sSeq (sE (p_iconst 15 (0)))
(sE (p_ireturn 16 17))))
def mH_firstCoefficient : eHt hhH_firstCoefficient := eMakeH yH_firstCoefficient method_8_code 4 (some .int) gH_firstCoefficient tb1168 tb0 (by decide +kernel) (by decide +kernel)
theorem mH_firstCoefficient_c : hCall mH_firstCoefficient = sGo (some .int) gH_firstCoefficient := rfl

def yH_valueAt : MethodName := ⟨RL, "valueAt", "(LRootDiscs;IIZ[J)I"⟩
def hhH_valueAt : List (Nat × Nat × Nat × Nat) := [(0, 11, 14, 19)]
def hdH_valueAt : List eHn := [("java/lang/IllegalArgumentException", 14, 16, 5)]
theorem hkH_valueAt : ∀ q ∈ hdH_valueAt, hOK RL hhH_valueAt 7 q := (List.forall_mem_cons.mpr ⟨⟨⟨[], ⟨0, 11, 14, 19⟩, [], rfl, (fun z hz => absurd hz List.not_mem_nil), by decide, by decide, rfl, tb814⟩, xb821⟩, (fun q hq => absurd hq List.not_mem_nil)⟩)
def gH_valueAt : sP (sTb hhH_valueAt) (RL, false, true, 6) := (sSeq (sBlk 18 (sSeq (sBlk 16 (sSeq (sE (p_aload 0 4))
(sSeq (sE (p_iconst 2 (0)))
(sSeq (sE (p_aload_n 3 0))
(sSeq (sE (p_iload_n 4 1))
(sSeq (sE (p_iload_n 5 2))
(sSeq (sE (p_iload_n 6 3))
(sSeq (p_try (hh := hhH_valueAt) 7 4 (.invokevirtual 36) _ mX12_valueAt (eLnkV (ci := 10) (by decide) rfl tb1176 tb1177 tb1178 (by decide +kernel)) hdH_valueAt hkH_valueAt)
(sSeq (sE (p_last 10))
(sSeq (sE (p_goto 11 (7) 18 (by decide)))
(sE (p_stuck 14 16))))))))))))
(sSeq (sE (p_iconst 16 (1)))
(sE (p_ireturn 17 18)))))
(sSeq (sE (p_iconst 18 (0)))
(sE (p_ireturn 19 20))))
def mH_valueAt : eHt hhH_valueAt := eMakeH yH_valueAt method_9_code 6 (some .int) gH_valueAt tb1175 tb0 (by decide +kernel) (by decide +kernel)
theorem mH_valueAt_c : hCall mH_valueAt = sGo (some .int) gH_valueAt := rfl

def yH_slopeAt : MethodName := ⟨RL, "slopeAt", "(LRootDiscs;IIZ[J)I"⟩
def hhH_slopeAt : List (Nat × Nat × Nat × Nat) := [(0, 11, 14, 19)]
def hdH_slopeAt : List eHn := [("java/lang/IllegalArgumentException", 14, 16, 5)]
theorem hkH_slopeAt : ∀ q ∈ hdH_slopeAt, hOK RL hhH_slopeAt 7 q := (List.forall_mem_cons.mpr ⟨⟨⟨[], ⟨0, 11, 14, 19⟩, [], rfl, (fun z hz => absurd hz List.not_mem_nil), by decide, by decide, rfl, tb814⟩, xb821⟩, (fun q hq => absurd hq List.not_mem_nil)⟩)
def gH_slopeAt : sP (sTb hhH_slopeAt) (RL, false, true, 6) := (sSeq (sBlk 18 (sSeq (sBlk 16 (sSeq (sE (p_aload 0 4))
(sSeq (sE (p_iconst 2 (0)))
(sSeq (sE (p_aload_n 3 0))
(sSeq (sE (p_iload_n 4 1))
(sSeq (sE (p_iload_n 5 2))
(sSeq (sE (p_iload_n 6 3))
(sSeq (p_try (hh := hhH_slopeAt) 7 4 (.invokevirtual 40) _ mX12_slopeAt (eLnkV (ci := 10) (by decide) rfl tb1185 tb1186 tb1187 (by decide +kernel)) hdH_slopeAt hkH_slopeAt)
(sSeq (sE (p_last 10))
(sSeq (sE (p_goto 11 (7) 18 (by decide)))
(sE (p_stuck 14 16))))))))))))
(sSeq (sE (p_iconst 16 (1)))
(sE (p_ireturn 17 18)))))
(sSeq (sE (p_iconst 18 (0)))
(sE (p_ireturn 19 20))))
def mH_slopeAt : eHt hhH_slopeAt := eMakeH yH_slopeAt method_10_code 6 (some .int) gH_slopeAt tb1184 tb0 (by decide +kernel) (by decide +kernel)
theorem mH_slopeAt_c : hCall mH_slopeAt = sGo (some .int) gH_slopeAt := rfl

def yH_edge : MethodName := ⟨RL, "edge", "(LRootDiscs;II[J)I"⟩
def hhH_edge : List (Nat × Nat × Nat × Nat) := [(0, 10, 13, 31), (0, 10, 17, 19)]
def hdH_edge : List eHn := [("java/lang/IndexOutOfBoundsException", 13, 15, 4), ("java/lang/IllegalArgumentException", 17, 19, 4)]
theorem hkH_edge : ∀ q ∈ hdH_edge, hOK RL hhH_edge 5 q := (List.forall_mem_cons.mpr ⟨⟨⟨[], ⟨0, 10, 13, 31⟩, [⟨0, 10, 17, 19⟩], rfl, (fun z hz => absurd hz List.not_mem_nil), by decide, by decide, rfl, tb1141⟩, xb1152⟩, (List.forall_mem_cons.mpr ⟨⟨⟨[⟨0, 10, 13, 31⟩], ⟨0, 10, 17, 19⟩, [], rfl, (fun z hz => by rw [List.mem_singleton.mp hz]; exact ⟨by decide, "java/lang/IndexOutOfBoundsException", tb1141, by decide⟩), by decide, by decide, rfl, tb814⟩, xb821⟩, (fun q hq => absurd hq List.not_mem_nil)⟩)⟩)
def gH_edge : sP (sTb hhH_edge) (RL, false, true, 5) := (sSeq (sBlk 21 (sSeq (sBlk 19 (sSeq (sBlk 15 (sSeq (sE (p_aload_n 0 3))
(sSeq (sE (p_iconst 1 (0)))
(sSeq (sE (p_aload_n 2 0))
(sSeq (sE (p_iload_n 3 1))
(sSeq (sE (p_iload_n 4 2))
(sSeq (p_try (hh := hhH_edge) 5 3 (.invokevirtual 43) _ mX12_edge (eLnkV (ci := 10) (by decide) rfl tb1192 tb1193 tb1194 (by decide +kernel)) hdH_edge hkH_edge)
(sSeq (sE (p_i2l 8))
(sSeq (sE (p_last 9))
(sSeq (sE (p_goto 10 (11) 21 (by decide)))
(sE (p_stuck 13 15))))))))))))
(sSeq (sE (p_iconst 15 (1)))
(sSeq (sE (p_ireturn 16 17))
(sE (p_stuck 17 19))))))
(sSeq (sE (p_iconst 19 (2)))
(sE (p_ireturn 20 21)))))
(sSeq (sE (p_iconst 21 (0)))
(sE (p_ireturn 22 23))))
def mH_edge : eHt hhH_edge := eMakeH yH_edge method_11_code 5 (some .int) gH_edge tb1191 tb0 (by decide +kernel) (by decide +kernel)
theorem mH_edge_c : hCall mH_edge = sGo (some .int) gH_edge := rfl

def yH_point : MethodName := ⟨RL, "point", "(LRootDiscs;II[J)I"⟩
def hhH_point : List (Nat × Nat × Nat × Nat) := [(0, 10, 13, 31), (0, 10, 17, 19)]
def hdH_point : List eHn := [("java/lang/IndexOutOfBoundsException", 13, 15, 4), ("java/lang/IllegalArgumentException", 17, 19, 4)]
theorem hkH_point : ∀ q ∈ hdH_point, hOK RL hhH_point 5 q := (List.forall_mem_cons.mpr ⟨⟨⟨[], ⟨0, 10, 13, 31⟩, [⟨0, 10, 17, 19⟩], rfl, (fun z hz => absurd hz List.not_mem_nil), by decide, by decide, rfl, tb1141⟩, xb1152⟩, (List.forall_mem_cons.mpr ⟨⟨⟨[⟨0, 10, 13, 31⟩], ⟨0, 10, 17, 19⟩, [], rfl, (fun z hz => by rw [List.mem_singleton.mp hz]; exact ⟨by decide, "java/lang/IndexOutOfBoundsException", tb1141, by decide⟩), by decide, by decide, rfl, tb814⟩, xb821⟩, (fun q hq => absurd hq List.not_mem_nil)⟩)⟩)
def gH_point : sP (sTb hhH_point) (RL, false, true, 5) := (sSeq (sBlk 21 (sSeq (sBlk 19 (sSeq (sBlk 15 (sSeq (sE (p_aload_n 0 3))
(sSeq (sE (p_iconst 1 (0)))
(sSeq (sE (p_aload_n 2 0))
(sSeq (sE (p_iload_n 3 1))
(sSeq (sE (p_iload_n 4 2))
(sSeq (p_try (hh := hhH_point) 5 3 (.invokevirtual 47) _ mX12_point (eLnkV (ci := 10) (by decide) rfl tb1207 tb1208 tb1209 (by decide +kernel)) hdH_point hkH_point)
(sSeq (sE (p_i2l 8))
(sSeq (sE (p_last 9))
(sSeq (sE (p_goto 10 (11) 21 (by decide)))
(sE (p_stuck 13 15))))))))))))
(sSeq (sE (p_iconst 15 (1)))
(sSeq (sE (p_ireturn 16 17))
(sE (p_stuck 17 19))))))
(sSeq (sE (p_iconst 19 (2)))
(sE (p_ireturn 20 21)))))
(sSeq (sE (p_iconst 21 (0)))
(sE (p_ireturn 22 23))))
def mH_point : eHt hhH_point := eMakeH yH_point method_12_code 5 (some .int) gH_point tb1206 tb0 (by decide +kernel) (by decide +kernel)
theorem mH_point_c : hCall mH_point = sGo (some .int) gH_point := rfl

def yH_value : MethodName := ⟨RL, "value", "(LRootDiscs;IZ[J)I"⟩
def hhH_value : List (Nat × Nat × Nat × Nat) := [(0, 9, 12, 31)]
def hdH_value : List eHn := [("java/lang/IndexOutOfBoundsException", 12, 14, 4)]
theorem hkH_value : ∀ q ∈ hdH_value, hOK RL hhH_value 5 q := (List.forall_mem_cons.mpr ⟨⟨⟨[], ⟨0, 9, 12, 31⟩, [], rfl, (fun z hz => absurd hz List.not_mem_nil), by decide, by decide, rfl, tb1141⟩, xb1152⟩, (fun q hq => absurd hq List.not_mem_nil)⟩)
def gH_value : sP (sTb hhH_value) (RL, false, true, 5) := (sSeq (sBlk 16 (sSeq (sBlk 14 (sSeq (sE (p_aload_n 0 3))
(sSeq (sE (p_iconst 1 (0)))
(sSeq (sE (p_aload_n 2 0))
(sSeq (sE (p_iload_n 3 1))
(sSeq (sE (p_iload_n 4 2))
(sSeq (p_try (hh := hhH_value) 5 3 (.invokevirtual 50) _ mX12_value (eLnkV (ci := 10) (by decide) rfl tb1217 tb1218 tb1219 (by decide +kernel)) hdH_value hkH_value)
(sSeq (sE (p_last 8))
(sSeq (sE (p_goto 9 (7) 16 (by decide)))
(sE (p_stuck 12 14)))))))))))
(sSeq (sE (p_iconst 14 (1)))
(sE (p_ireturn 15 16)))))
(sSeq (sE (p_iconst 16 (0)))
(sE (p_ireturn 17 18))))
def mH_value : eHt hhH_value := eMakeH yH_value method_13_code 5 (some .int) gH_value tb1216 tb0 (by decide +kernel) (by decide +kernel)
theorem mH_value_c : hCall mH_value = sGo (some .int) gH_value := rfl

def yH_product : MethodName := ⟨RL, "product", "(LRootDiscs;IZ[J)I"⟩
def hhH_product : List (Nat × Nat × Nat × Nat) := [(0, 9, 12, 31)]
def hdH_product : List eHn := [("java/lang/IndexOutOfBoundsException", 12, 14, 4)]
theorem hkH_product : ∀ q ∈ hdH_product, hOK RL hhH_product 5 q := (List.forall_mem_cons.mpr ⟨⟨⟨[], ⟨0, 9, 12, 31⟩, [], rfl, (fun z hz => absurd hz List.not_mem_nil), by decide, by decide, rfl, tb1141⟩, xb1152⟩, (fun q hq => absurd hq List.not_mem_nil)⟩)
def gH_product : sP (sTb hhH_product) (RL, false, true, 5) := (sSeq (sBlk 16 (sSeq (sBlk 14 (sSeq (sE (p_aload_n 0 3))
(sSeq (sE (p_iconst 1 (0)))
(sSeq (sE (p_aload_n 2 0))
(sSeq (sE (p_iload_n 3 1))
(sSeq (sE (p_iload_n 4 2))
(sSeq (p_try (hh := hhH_product) 5 3 (.invokevirtual 54) _ mX12_product (eLnkV (ci := 10) (by decide) rfl tb1224 tb1225 tb1226 (by decide +kernel)) hdH_product hkH_product)
(sSeq (sE (p_last 8))
(sSeq (sE (p_goto 9 (7) 16 (by decide)))
(sE (p_stuck 12 14)))))))))))
(sSeq (sE (p_iconst 14 (1)))
(sE (p_ireturn 15 16)))))
(sSeq (sE (p_iconst 16 (0)))
(sE (p_ireturn 17 18))))
def mH_product : eHt hhH_product := eMakeH yH_product method_14_code 5 (some .int) gH_product tb1223 tb0 (by decide +kernel) (by decide +kernel)
theorem mH_product_c : hCall mH_product = sGo (some .int) gH_product := rfl

def yH_span : MethodName := ⟨RL, "span", "(LRootDiscs;I[J)I"⟩
def hhH_span : List (Nat × Nat × Nat × Nat) := [(0, 8, 11, 31)]
def hdH_span : List eHn := [("java/lang/IndexOutOfBoundsException", 11, 12, 3)]
theorem hkH_span : ∀ q ∈ hdH_span, hOK RL hhH_span 4 q := (List.forall_mem_cons.mpr ⟨⟨⟨[], ⟨0, 8, 11, 31⟩, [], rfl, (fun z hz => absurd hz List.not_mem_nil), by decide, by decide, rfl, tb1141⟩, xb1152⟩, (fun q hq => absurd hq List.not_mem_nil)⟩)
def gH_span : sP (sTb hhH_span) (RL, false, true, 4) := (sSeq (sBlk 14 (sSeq (sBlk 12 (sSeq (sE (p_aload_n 0 2))
(sSeq (sE (p_iconst 1 (0)))
(sSeq (sE (p_aload_n 2 0))
(sSeq (sE (p_iload_n 3 1))
(sSeq (p_try (hh := hhH_span) 4 2 (.invokevirtual 57) _ mX12_span (eLnkV (ci := 10) (by decide) rfl tb1231 tb1232 tb1233 (by decide +kernel)) hdH_span hkH_span)
(sSeq (sE (p_last 7))
(sSeq (sE (p_goto 8 (6) 14 (by decide)))
(sE (p_stuck 11 12))))))))))
(sSeq (sE (p_iconst 12 (1)))
(sE (p_ireturn 13 14)))))
(sSeq (sE (p_iconst 14 (0)))
(sE (p_ireturn 15 16))))
def mH_span : eHt hhH_span := eMakeH yH_span method_15_code 4 (some .int) gH_span tb1230 tb0 (by decide +kernel) (by decide +kernel)
theorem mH_span_c : hCall mH_span = sGo (some .int) gH_span := rfl

def yH_step : MethodName := ⟨RL, "step", "(LRootDiscs;IZ[J)I"⟩
def hhH_step : List (Nat × Nat × Nat × Nat) := [(0, 10, 13, 31)]
def hdH_step : List eHn := [("java/lang/IndexOutOfBoundsException", 13, 15, 4)]
theorem hkH_step : ∀ q ∈ hdH_step, hOK RL hhH_step 5 q := (List.forall_mem_cons.mpr ⟨⟨⟨[], ⟨0, 10, 13, 31⟩, [], rfl, (fun z hz => absurd hz List.not_mem_nil), by decide, by decide, rfl, tb1141⟩, xb1152⟩, (fun q hq => absurd hq List.not_mem_nil)⟩)
def gH_step : sP (sTb hhH_step) (RL, false, true, 5) := (sSeq (sBlk 17 (sSeq (sBlk 15 (sSeq (sE (p_aload_n 0 3))
(sSeq (sE (p_iconst 1 (0)))
(sSeq (sE (p_aload_n 2 0))
(sSeq (sE (p_iload_n 3 1))
(sSeq (sE (p_iload_n 4 2))
(sSeq (p_try (hh := hhH_step) 5 3 (.invokevirtual 61) _ mX12_step (eLnkV (ci := 10) (by decide) rfl tb1239 tb1240 tb1241 (by decide +kernel)) hdH_step hkH_step)
(sSeq (sE (p_i2l 8))
(sSeq (sE (p_last 9))
(sSeq (sE (p_goto 10 (7) 17 (by decide)))
(sE (p_stuck 13 15))))))))))))
(sSeq (sE (p_iconst 15 (1)))
(sE (p_ireturn 16 17)))))
(sSeq (sE (p_iconst 17 (0)))
(sE (p_ireturn 18 19))))
def mH_step : eHt hhH_step := eMakeH yH_step method_16_code 5 (some .int) gH_step tb1238 tb0 (by decide +kernel) (by decide +kernel)
theorem mH_step_c : hCall mH_step = sGo (some .int) gH_step := rfl

def yH_touch : MethodName := ⟨RL, "touch", "(LRootDiscs;II[J)I"⟩
def hhH_touch : List (Nat × Nat × Nat × Nat) := [(0, 17, 20, 31)]
def hdH_touch : List eHn := [("java/lang/IndexOutOfBoundsException", 20, 22, 4)]
theorem hkH_touch : ∀ q ∈ hdH_touch, hOK RL hhH_touch 5 q := (List.forall_mem_cons.mpr ⟨⟨⟨[], ⟨0, 17, 20, 31⟩, [], rfl, (fun z hz => absurd hz List.not_mem_nil), by decide, by decide, rfl, tb1141⟩, xb1152⟩, (fun q hq => absurd hq List.not_mem_nil)⟩)
def gH_touch : sP (sTb hhH_touch) (RL, false, true, 5) := (sSeq (sBlk 24 (sSeq (sBlk 22 (sSeq (sE (p_aload_n 0 3))
(sSeq (sE (p_iconst 1 (0)))
(sSeq (sE (p_aload_n 2 0))
(sSeq (sE (p_iload_n 3 1))
(sSeq (sE (p_iload_n 4 2))
(sSeq (p_try (hh := hhH_touch) 5 3 (.invokevirtual 65) _ mX12_touch (eLnkV (ci := 10) (by decide) rfl tb1247 tb1248 tb1249 (by decide +kernel)) hdH_touch hkH_touch)
(sSeq (sBlk 16 (sSeq (sBlk 15 (sSeq (sE (p_if_eq 8 (7) 15 (by decide)))
(sSeq (sE (p_lconst 11 1))
(sE (p_goto 12 (4) 16 (by decide))))))
(sE (p_lconst 15 0))))
(sSeq (sE (p_last 16))
(sSeq (sE (p_goto 17 (7) 24 (by decide)))
(sE (p_stuck 20 22))))))))))))
(sSeq (sE (p_iconst 22 (1)))
(sE (p_ireturn 23 24)))))
(sSeq (sE (p_iconst 24 (0)))
(sE (p_ireturn 25 26))))
def mH_touch : eHt hhH_touch := eMakeH yH_touch method_17_code 5 (some .int) gH_touch tb1246 tb0 (by decide +kernel) (by decide +kernel)
theorem mH_touch_c : hCall mH_touch = sGo (some .int) gH_touch := rfl

def yH_cluster : MethodName := ⟨RL, "cluster", "(LRootDiscs;I[J)I"⟩
def hhH_cluster : List (Nat × Nat × Nat × Nat) := [(0, 9, 12, 31)]
def hdH_cluster : List eHn := [("java/lang/IndexOutOfBoundsException", 12, 13, 3)]
theorem hkH_cluster : ∀ q ∈ hdH_cluster, hOK RL hhH_cluster 4 q := (List.forall_mem_cons.mpr ⟨⟨⟨[], ⟨0, 9, 12, 31⟩, [], rfl, (fun z hz => absurd hz List.not_mem_nil), by decide, by decide, rfl, tb1141⟩, xb1152⟩, (fun q hq => absurd hq List.not_mem_nil)⟩)
def gH_cluster : sP (sTb hhH_cluster) (RL, false, true, 4) := (sSeq (sBlk 15 (sSeq (sBlk 13 (sSeq (sE (p_aload_n 0 2))
(sSeq (sE (p_iconst 1 (0)))
(sSeq (sE (p_aload_n 2 0))
(sSeq (sE (p_iload_n 3 1))
(sSeq (p_try (hh := hhH_cluster) 4 2 (.invokevirtual 69) _ mX12_cluster (eLnkV (ci := 10) (by decide) rfl tb1255 tb1256 tb1257 (by decide +kernel)) hdH_cluster hkH_cluster)
(sSeq (sE (p_i2l 7))
(sSeq (sE (p_last 8))
(sSeq (sE (p_goto 9 (6) 15 (by decide)))
(sE (p_stuck 12 13)))))))))))
(sSeq (sE (p_iconst 13 (1)))
(sE (p_ireturn 14 15)))))
(sSeq (sE (p_iconst 15 (0)))
(sE (p_ireturn 16 17))))
def mH_cluster : eHt hhH_cluster := eMakeH yH_cluster method_18_code 4 (some .int) gH_cluster tb1254 tb0 (by decide +kernel) (by decide +kernel)
theorem mH_cluster_c : hCall mH_cluster = sGo (some .int) gH_cluster := rfl

def yH_rootsIn : MethodName := ⟨RL, "rootsIn", "(LRootDiscs;IIIIZ[J)I"⟩
def hhH_rootsIn : List (Nat × Nat × Nat × Nat) := [(0, 16, 19, 19)]
def hdH_rootsIn : List eHn := [("java/lang/IllegalArgumentException", 19, 21, 7)]
theorem hkH_rootsIn : ∀ q ∈ hdH_rootsIn, hOK RL hhH_rootsIn 11 q := (List.forall_mem_cons.mpr ⟨⟨⟨[], ⟨0, 16, 19, 19⟩, [], rfl, (fun z hz => absurd hz List.not_mem_nil), by decide, by decide, rfl, tb814⟩, xb821⟩, (fun q hq => absurd hq List.not_mem_nil)⟩)
def gH_rootsIn : sP (sTb hhH_rootsIn) (RL, false, true, 8) := (sSeq (sBlk 23 (sSeq (sBlk 21 (sSeq (sE (p_aload 0 6))
(sSeq (sE (p_iconst 2 (0)))
(sSeq (sE (p_aload_n 3 0))
(sSeq (sE (p_iload_n 4 1))
(sSeq (sE (p_iload_n 5 2))
(sSeq (sE (p_iload_n 6 3))
(sSeq (sE (p_iload 7 4))
(sSeq (sE (p_iload 9 5))
(sSeq (p_try (hh := hhH_rootsIn) 11 6 (.invokevirtual 72) _ mX12_rootsIn (eLnkV (ci := 10) (by decide) rfl tb1263 tb1264 tb1265 (by decide +kernel)) hdH_rootsIn hkH_rootsIn)
(sSeq (sE (p_i2l 14))
(sSeq (sE (p_last 15))
(sSeq (sE (p_goto 16 (7) 23 (by decide)))
(sE (p_stuck 19 21)))))))))))))))
(sSeq (sE (p_iconst 21 (1)))
(sE (p_ireturn 22 23)))))
(sSeq (sE (p_iconst 23 (0)))
(sE (p_ireturn 24 25))))
def mH_rootsIn : eHt hhH_rootsIn := eMakeH yH_rootsIn method_19_code 8 (some .int) gH_rootsIn tb1262 tb0 (by decide +kernel) (by decide +kernel)
theorem mH_rootsIn_c : hCall mH_rootsIn = sGo (some .int) gH_rootsIn := rfl

def yH_whyNotDivide : MethodName := ⟨RL, "whyNotDivide", "(LRootDiscs;I[J)I"⟩
def hhH_whyNotDivide : List (Nat × Nat × Nat × Nat) := [(0, 9, 12, 19)]
def hdH_whyNotDivide : List eHn := [("java/lang/IllegalArgumentException", 12, 13, 3)]
theorem hkH_whyNotDivide : ∀ q ∈ hdH_whyNotDivide, hOK RL hhH_whyNotDivide 4 q := (List.forall_mem_cons.mpr ⟨⟨⟨[], ⟨0, 9, 12, 19⟩, [], rfl, (fun z hz => absurd hz List.not_mem_nil), by decide, by decide, rfl, tb814⟩, xb821⟩, (fun q hq => absurd hq List.not_mem_nil)⟩)
def gH_whyNotDivide : sP (sTb hhH_whyNotDivide) (RL, false, true, 4) := (sSeq (sBlk 15 (sSeq (sBlk 13 (sSeq (sE (p_aload_n 0 2))
(sSeq (sE (p_iconst 1 (0)))
(sSeq (sE (p_aload_n 2 0))
(sSeq (sE (p_iload_n 3 1))
(sSeq (p_try (hh := hhH_whyNotDivide) 4 2 (.invokevirtual 76) _ mX12_whyNotDivide (eLnkV (ci := 10) (by decide) rfl tb1282 tb1283 tb1284 (by decide +kernel)) hdH_whyNotDivide hkH_whyNotDivide)
(sSeq (sE (p_i2l 7))
(sSeq (sE (p_last 8))
(sSeq (sE (p_goto 9 (6) 15 (by decide)))
(sE (p_stuck 12 13)))))))))))
(sSeq (sE (p_iconst 13 (1)))
(sE (p_ireturn 14 15)))))
(sSeq (sE (p_iconst 15 (0)))
(sE (p_ireturn 16 17))))
def mH_whyNotDivide : eHt hhH_whyNotDivide := eMakeH yH_whyNotDivide method_20_code 4 (some .int) gH_whyNotDivide tb1281 tb0 (by decide +kernel) (by decide +kernel)
theorem mH_whyNotDivide_c : hCall mH_whyNotDivide = sGo (some .int) gH_whyNotDivide := rfl

def yH_whyNotDividePair : MethodName := ⟨RL, "whyNotDividePair", "(LRootDiscs;II[J)I"⟩
def hhH_whyNotDividePair : List (Nat × Nat × Nat × Nat) := [(0, 10, 13, 19)]
def hdH_whyNotDividePair : List eHn := [("java/lang/IllegalArgumentException", 13, 15, 4)]
theorem hkH_whyNotDividePair : ∀ q ∈ hdH_whyNotDividePair, hOK RL hhH_whyNotDividePair 5 q := (List.forall_mem_cons.mpr ⟨⟨⟨[], ⟨0, 10, 13, 19⟩, [], rfl, (fun z hz => absurd hz List.not_mem_nil), by decide, by decide, rfl, tb814⟩, xb821⟩, (fun q hq => absurd hq List.not_mem_nil)⟩)
def gH_whyNotDividePair : sP (sTb hhH_whyNotDividePair) (RL, false, true, 5) := (sSeq (sBlk 17 (sSeq (sBlk 15 (sSeq (sE (p_aload_n 0 3))
(sSeq (sE (p_iconst 1 (0)))
(sSeq (sE (p_aload_n 2 0))
(sSeq (sE (p_iload_n 3 1))
(sSeq (sE (p_iload_n 4 2))
(sSeq (p_try (hh := hhH_whyNotDividePair) 5 3 (.invokevirtual 79) _ mX12_whyNotDividePair (eLnkV (ci := 10) (by decide) rfl tb1290 tb1291 tb1292 (by decide +kernel)) hdH_whyNotDividePair hkH_whyNotDividePair)
(sSeq (sE (p_i2l 8))
(sSeq (sE (p_last 9))
(sSeq (sE (p_goto 10 (7) 17 (by decide)))
(sE (p_stuck 13 15))))))))))))
(sSeq (sE (p_iconst 15 (1)))
(sE (p_ireturn 16 17)))))
(sSeq (sE (p_iconst 17 (0)))
(sE (p_ireturn 18 19))))
def mH_whyNotDividePair : eHt hhH_whyNotDividePair := eMakeH yH_whyNotDividePair method_21_code 5 (some .int) gH_whyNotDividePair tb1289 tb0 (by decide +kernel) (by decide +kernel)
theorem mH_whyNotDividePair_c : hCall mH_whyNotDividePair = sGo (some .int) gH_whyNotDividePair := rfl

def yH_debt : MethodName := ⟨RL, "debt", "(LRootDiscs;II[J)I"⟩
def hhH_debt : List (Nat × Nat × Nat × Nat) := [(0, 10, 13, 31), (0, 10, 17, 19)]
def hdH_debt : List eHn := [("java/lang/IndexOutOfBoundsException", 13, 15, 4), ("java/lang/IllegalArgumentException", 17, 19, 4)]
theorem hkH_debt : ∀ q ∈ hdH_debt, hOK RL hhH_debt 5 q := (List.forall_mem_cons.mpr ⟨⟨⟨[], ⟨0, 10, 13, 31⟩, [⟨0, 10, 17, 19⟩], rfl, (fun z hz => absurd hz List.not_mem_nil), by decide, by decide, rfl, tb1141⟩, xb1152⟩, (List.forall_mem_cons.mpr ⟨⟨⟨[⟨0, 10, 13, 31⟩], ⟨0, 10, 17, 19⟩, [], rfl, (fun z hz => by rw [List.mem_singleton.mp hz]; exact ⟨by decide, "java/lang/IndexOutOfBoundsException", tb1141, by decide⟩), by decide, by decide, rfl, tb814⟩, xb821⟩, (fun q hq => absurd hq List.not_mem_nil)⟩)⟩)
def gH_debt : sP (sTb hhH_debt) (RL, false, true, 5) := (sSeq (sBlk 21 (sSeq (sBlk 19 (sSeq (sBlk 15 (sSeq (sE (p_aload_n 0 3))
(sSeq (sE (p_iconst 1 (0)))
(sSeq (sE (p_aload_n 2 0))
(sSeq (sE (p_iload_n 3 1))
(sSeq (sE (p_iload_n 4 2))
(sSeq (p_try (hh := hhH_debt) 5 3 (.invokevirtual 82) _ mX12_debt (eLnkV (ci := 10) (by decide) rfl tb1297 tb1298 tb1299 (by decide +kernel)) hdH_debt hkH_debt)
(sSeq (sE (p_i2l 8))
(sSeq (sE (p_last 9))
(sSeq (sE (p_goto 10 (11) 21 (by decide)))
(sE (p_stuck 13 15))))))))))))
(sSeq (sE (p_iconst 15 (1)))
(sSeq (sE (p_ireturn 16 17))
(sE (p_stuck 17 19))))))
(sSeq (sE (p_iconst 19 (2)))
(sE (p_ireturn 20 21)))))
(sSeq (sE (p_iconst 21 (0)))
(sE (p_ireturn 22 23))))
def mH_debt : eHt hhH_debt := eMakeH yH_debt method_22_code 5 (some .int) gH_debt tb1296 tb0 (by decide +kernel) (by decide +kernel)
theorem mH_debt_c : hCall mH_debt = sGo (some .int) gH_debt := rfl

def yH_recombined : MethodName := ⟨RL, "recombined", "(LRootDiscs;I[J)I"⟩
def hhH_recombined : List (Nat × Nat × Nat × Nat) := [(0, 9, 12, 31)]
def hdH_recombined : List eHn := [("java/lang/IndexOutOfBoundsException", 12, 13, 3)]
theorem hkH_recombined : ∀ q ∈ hdH_recombined, hOK RL hhH_recombined 4 q := (List.forall_mem_cons.mpr ⟨⟨⟨[], ⟨0, 9, 12, 31⟩, [], rfl, (fun z hz => absurd hz List.not_mem_nil), by decide, by decide, rfl, tb1141⟩, xb1152⟩, (fun q hq => absurd hq List.not_mem_nil)⟩)
def gH_recombined : sP (sTb hhH_recombined) (RL, false, true, 4) := (sSeq (sBlk 15 (sSeq (sBlk 13 (sSeq (sE (p_aload_n 0 2))
(sSeq (sE (p_iconst 1 (0)))
(sSeq (sE (p_aload_n 2 0))
(sSeq (sE (p_iload_n 3 1))
(sSeq (p_try (hh := hhH_recombined) 4 2 (.invokevirtual 85) _ mX12_recombined (eLnkV (ci := 10) (by decide) rfl tb1308 tb1309 tb1310 (by decide +kernel)) hdH_recombined hkH_recombined)
(sSeq (sE (p_i2l 7))
(sSeq (sE (p_last 8))
(sSeq (sE (p_goto 9 (6) 15 (by decide)))
(sE (p_stuck 12 13)))))))))))
(sSeq (sE (p_iconst 13 (1)))
(sE (p_ireturn 14 15)))))
(sSeq (sE (p_iconst 15 (0)))
(sE (p_ireturn 16 17))))
def mH_recombined : eHt hhH_recombined := eMakeH yH_recombined method_23_code 4 (some .int) gH_recombined tb1307 tb0 (by decide +kernel) (by decide +kernel)
theorem mH_recombined_c : hCall mH_recombined = sGo (some .int) gH_recombined := rfl

def yH_sweepsToSettle : MethodName := ⟨RL, "sweepsToSettle", "(LRootDiscs;I[J)I"⟩
def hhH_sweepsToSettle : List (Nat × Nat × Nat × Nat) := [(0, 9, 12, 19)]
def hdH_sweepsToSettle : List eHn := [("java/lang/IllegalArgumentException", 12, 13, 3)]
theorem hkH_sweepsToSettle : ∀ q ∈ hdH_sweepsToSettle, hOK RL hhH_sweepsToSettle 4 q := (List.forall_mem_cons.mpr ⟨⟨⟨[], ⟨0, 9, 12, 19⟩, [], rfl, (fun z hz => absurd hz List.not_mem_nil), by decide, by decide, rfl, tb814⟩, xb821⟩, (fun q hq => absurd hq List.not_mem_nil)⟩)
def gH_sweepsToSettle : sP (sTb hhH_sweepsToSettle) (RL, false, true, 4) := (sSeq (sBlk 15 (sSeq (sBlk 13 (sSeq (sE (p_aload_n 0 2))
(sSeq (sE (p_iconst 1 (0)))
(sSeq (sE (p_aload_n 2 0))
(sSeq (sE (p_iload_n 3 1))
(sSeq (p_try (hh := hhH_sweepsToSettle) 4 2 (.invokevirtual 88) _ mX12_sweepsToSettle (eLnkV (ci := 10) (by decide) rfl tb1325 tb1326 tb1327 (by decide +kernel)) hdH_sweepsToSettle hkH_sweepsToSettle)
(sSeq (sE (p_i2l 7))
(sSeq (sE (p_last 8))
(sSeq (sE (p_goto 9 (6) 15 (by decide)))
(sE (p_stuck 12 13)))))))))))
(sSeq (sE (p_iconst 13 (1)))
(sE (p_ireturn 14 15)))))
(sSeq (sE (p_iconst 15 (0)))
(sE (p_ireturn 16 17))))
def mH_sweepsToSettle : eHt hhH_sweepsToSettle := eMakeH yH_sweepsToSettle method_24_code 4 (some .int) gH_sweepsToSettle tb1324 tb0 (by decide +kernel) (by decide +kernel)
theorem mH_sweepsToSettle_c : hCall mH_sweepsToSettle = sGo (some .int) gH_sweepsToSettle := rfl

def yH_refine : MethodName := ⟨RL, "refine", "(LRootDiscs;I[J)I"⟩
def hhH_refine : List (Nat × Nat × Nat × Nat) := [(0, 9, 12, 31)]
def hdH_refine : List eHn := [("java/lang/IndexOutOfBoundsException", 12, 13, 3)]
theorem hkH_refine : ∀ q ∈ hdH_refine, hOK RL hhH_refine 4 q := (List.forall_mem_cons.mpr ⟨⟨⟨[], ⟨0, 9, 12, 31⟩, [], rfl, (fun z hz => absurd hz List.not_mem_nil), by decide, by decide, rfl, tb1141⟩, xb1152⟩, (fun q hq => absurd hq List.not_mem_nil)⟩)
def gH_refine : sP (sTb hhH_refine) (RL, false, true, 4) := (sSeq (sBlk 15 (sSeq (sBlk 13 (sSeq (sE (p_aload_n 0 2))
(sSeq (sE (p_iconst 1 (0)))
(sSeq (sE (p_aload_n 2 0))
(sSeq (sE (p_iload_n 3 1))
(sSeq (p_try (hh := hhH_refine) 4 2 (.invokevirtual 91) _ mX12_refine (eLnkV (ci := 10) (by decide) rfl tb1333 tb1334 tb1335 (by decide +kernel)) hdH_refine hkH_refine)
(sSeq (sE (p_i2l 7))
(sSeq (sE (p_last 8))
(sSeq (sE (p_goto 9 (6) 15 (by decide)))
(sE (p_stuck 12 13)))))))))))
(sSeq (sE (p_iconst 13 (1)))
(sE (p_ireturn 14 15)))))
(sSeq (sE (p_iconst 15 (0)))
(sE (p_ireturn 16 17))))
def mH_refine : eHt hhH_refine := eMakeH yH_refine method_25_code 4 (some .int) gH_refine tb1332 tb0 (by decide +kernel) (by decide +kernel)
theorem mH_refine_c : hCall mH_refine = sGo (some .int) gH_refine := rfl

def yH_run : MethodName := ⟨RL, "run", "(LRootDiscs;I[J)I"⟩
def hhH_run : List (Nat × Nat × Nat × Nat) := [(0, 9, 12, 19)]
def hdH_run : List eHn := [("java/lang/IllegalArgumentException", 12, 13, 3)]
theorem hkH_run : ∀ q ∈ hdH_run, hOK RL hhH_run 4 q := (List.forall_mem_cons.mpr ⟨⟨⟨[], ⟨0, 9, 12, 19⟩, [], rfl, (fun z hz => absurd hz List.not_mem_nil), by decide, by decide, rfl, tb814⟩, xb821⟩, (fun q hq => absurd hq List.not_mem_nil)⟩)
def gH_run : sP (sTb hhH_run) (RL, false, true, 4) := (sSeq (sBlk 15 (sSeq (sBlk 13 (sSeq (sE (p_aload_n 0 2))
(sSeq (sE (p_iconst 1 (0)))
(sSeq (sE (p_aload_n 2 0))
(sSeq (sE (p_iload_n 3 1))
(sSeq (p_try (hh := hhH_run) 4 2 (.invokevirtual 94) _ mX12_run (eLnkV (ci := 10) (by decide) rfl tb1340 tb1341 tb1342 (by decide +kernel)) hdH_run hkH_run)
(sSeq (sE (p_i2l 7))
(sSeq (sE (p_last 8))
(sSeq (sE (p_goto 9 (6) 15 (by decide)))
(sE (p_stuck 12 13)))))))))))
(sSeq (sE (p_iconst 13 (1)))
(sE (p_ireturn 14 15)))))
(sSeq (sE (p_iconst 15 (0)))
(sE (p_ireturn 16 17))))
def mH_run : eHt hhH_run := eMakeH yH_run method_26_code 4 (some .int) gH_run tb1339 tb0 (by decide +kernel) (by decide +kernel)
theorem mH_run_c : hCall mH_run = sGo (some .int) gH_run := rfl

def yH_spread : MethodName := ⟨RL, "spread", "(LRootDiscs;I[J)I"⟩
def hhH_spread : List (Nat × Nat × Nat × Nat) := [(0, 9, 12, 19)]
def hdH_spread : List eHn := [("java/lang/IllegalArgumentException", 12, 13, 3)]
theorem hkH_spread : ∀ q ∈ hdH_spread, hOK RL hhH_spread 4 q := (List.forall_mem_cons.mpr ⟨⟨⟨[], ⟨0, 9, 12, 19⟩, [], rfl, (fun z hz => absurd hz List.not_mem_nil), by decide, by decide, rfl, tb814⟩, xb821⟩, (fun q hq => absurd hq List.not_mem_nil)⟩)
def gH_spread : sP (sTb hhH_spread) (RL, false, true, 4) := (sSeq (sBlk 15 (sSeq (sBlk 13 (sSeq (sE (p_aload_n 0 2))
(sSeq (sE (p_iconst 1 (0)))
(sSeq (sE (p_aload_n 2 0))
(sSeq (sE (p_iload_n 3 1))
(sSeq (p_try (hh := hhH_spread) 4 2 (.invokevirtual 97) _ mX12_spread (eLnkV (ci := 10) (by decide) rfl tb1348 tb1349 tb1350 (by decide +kernel)) hdH_spread hkH_spread)
(sSeq (sE (p_i2l 7))
(sSeq (sE (p_last 8))
(sSeq (sE (p_goto 9 (6) 15 (by decide)))
(sE (p_stuck 12 13)))))))))))
(sSeq (sE (p_iconst 13 (1)))
(sE (p_ireturn 14 15)))))
(sSeq (sE (p_iconst 15 (0)))
(sE (p_ireturn 16 17))))
def mH_spread : eHt hhH_spread := eMakeH yH_spread method_27_code 4 (some .int) gH_spread tb1347 tb0 (by decide +kernel) (by decide +kernel)
theorem mH_spread_c : hCall mH_spread = sGo (some .int) gH_spread := rfl

def yH_move : MethodName := ⟨RL, "move", "(LRootDiscs;III[J)I"⟩
def hhH_move : List (Nat × Nat × Nat × Nat) := [(0, 12, 15, 31), (0, 12, 19, 19), (0, 12, 23, 13)]
def hdH_move : List eHn := [("java/lang/IndexOutOfBoundsException", 15, 17, 5), ("java/lang/IllegalArgumentException", 19, 21, 5), ("java/lang/IllegalStateException", 23, 25, 5)]
theorem hkH_move : ∀ q ∈ hdH_move, hOK RL hhH_move 7 q := (List.forall_mem_cons.mpr ⟨⟨⟨[], ⟨0, 12, 15, 31⟩, [⟨0, 12, 19, 19⟩, ⟨0, 12, 23, 13⟩], rfl, (fun z hz => absurd hz List.not_mem_nil), by decide, by decide, rfl, tb1141⟩, xb1152⟩, (List.forall_mem_cons.mpr ⟨⟨⟨[⟨0, 12, 15, 31⟩], ⟨0, 12, 19, 19⟩, [⟨0, 12, 23, 13⟩], rfl, (fun z hz => by rw [List.mem_singleton.mp hz]; exact ⟨by decide, "java/lang/IndexOutOfBoundsException", tb1141, by decide⟩), by decide, by decide, rfl, tb814⟩, xb821⟩, (List.forall_mem_cons.mpr ⟨⟨⟨[⟨0, 12, 15, 31⟩, ⟨0, 12, 19, 19⟩], ⟨0, 12, 23, 13⟩, [], rfl, (fun z hz => by
    rcases List.mem_cons.mp hz with hz | hz
    · rw [hz]; exact ⟨by decide, "java/lang/IndexOutOfBoundsException", tb1141, by decide⟩
    · rw [List.mem_singleton.mp hz]; exact ⟨by decide, "java/lang/IllegalArgumentException", tb814, by decide⟩), by decide, by decide, rfl, tb731⟩, xb742⟩, (fun q hq => absurd hq List.not_mem_nil)⟩)⟩)⟩)
def gH_move : sP (sTb hhH_move) (RL, false, true, 6) := (sSeq (sBlk 27 (sSeq (sBlk 25 (sSeq (sBlk 21 (sSeq (sBlk 17 (sSeq (sE (p_aload 0 4))
(sSeq (sE (p_iconst 2 (0)))
(sSeq (sE (p_aload_n 3 0))
(sSeq (sE (p_iload_n 4 1))
(sSeq (sE (p_iload_n 5 2))
(sSeq (sE (p_iload_n 6 3))
(sSeq (p_try (hh := hhH_move) 7 4 (.invokevirtual 100) _ mX12_move (eLnkV (ci := 10) (by decide) rfl tb1355 tb1356 tb1357 (by decide +kernel)) hdH_move hkH_move)
(sSeq (sE (p_i2l 10))
(sSeq (sE (p_last 11))
(sSeq (sE (p_goto 12 (15) 27 (by decide)))
(sE (p_stuck 15 17)))))))))))))
(sSeq (sE (p_iconst 17 (1)))
(sSeq (sE (p_ireturn 18 19))
(sE (p_stuck 19 21))))))
(sSeq (sE (p_iconst 21 (2)))
(sSeq (sE (p_ireturn 22 23))
(sE (p_stuck 23 25))))))
(sSeq (sE (p_iconst 25 (3)))
(sE (p_ireturn 26 27)))))
(sSeq (sE (p_iconst 27 (0)))
(sE (p_ireturn 28 29))))
def mH_move : eHt hhH_move := eMakeH yH_move method_28_code 6 (some .int) gH_move tb1354 tb0 (by decide +kernel) (by decide +kernel)
theorem mH_move_c : hCall mH_move = sGo (some .int) gH_move := rfl

def yH_join : MethodName := ⟨RL, "join", "(LRootDiscs;I[J)I"⟩
def hhH_join : List (Nat × Nat × Nat × Nat) := [(0, 9, 12, 31), (0, 9, 15, 13)]
def hdH_join : List eHn := [("java/lang/IndexOutOfBoundsException", 12, 13, 3), ("java/lang/IllegalStateException", 15, 16, 3)]
theorem hkH_join : ∀ q ∈ hdH_join, hOK RL hhH_join 4 q := (List.forall_mem_cons.mpr ⟨⟨⟨[], ⟨0, 9, 12, 31⟩, [⟨0, 9, 15, 13⟩], rfl, (fun z hz => absurd hz List.not_mem_nil), by decide, by decide, rfl, tb1141⟩, xb1152⟩, (List.forall_mem_cons.mpr ⟨⟨⟨[⟨0, 9, 12, 31⟩], ⟨0, 9, 15, 13⟩, [], rfl, (fun z hz => by rw [List.mem_singleton.mp hz]; exact ⟨by decide, "java/lang/IndexOutOfBoundsException", tb1141, by decide⟩), by decide, by decide, rfl, tb731⟩, xb742⟩, (fun q hq => absurd hq List.not_mem_nil)⟩)⟩)
def gH_join : sP (sTb hhH_join) (RL, false, true, 4) := (sSeq (sBlk 18 (sSeq (sBlk 16 (sSeq (sBlk 13 (sSeq (sE (p_aload_n 0 2))
(sSeq (sE (p_iconst 1 (0)))
(sSeq (sE (p_aload_n 2 0))
(sSeq (sE (p_iload_n 3 1))
(sSeq (p_try (hh := hhH_join) 4 2 (.invokevirtual 104) _ mX12_join (eLnkV (ci := 10) (by decide) rfl tb1363 tb1364 tb1365 (by decide +kernel)) hdH_join hkH_join)
(sSeq (sE (p_i2l 7))
(sSeq (sE (p_last 8))
(sSeq (sE (p_goto 9 (9) 18 (by decide)))
(sE (p_stuck 12 13)))))))))))
(sSeq (sE (p_iconst 13 (1)))
(sSeq (sE (p_ireturn 14 15))
(sE (p_stuck 15 16))))))
(sSeq (sE (p_iconst 16 (2)))
(sE (p_ireturn 17 18)))))
(sSeq (sE (p_iconst 18 (0)))
(sE (p_ireturn 19 20))))
def mH_join : eHt hhH_join := eMakeH yH_join method_29_code 4 (some .int) gH_join tb1362 tb0 (by decide +kernel) (by decide +kernel)
theorem mH_join_c : hCall mH_join = sGo (some .int) gH_join := rfl

def yH_part : MethodName := ⟨RL, "part", "(LRootDiscs;I[J)I"⟩
def hhH_part : List (Nat × Nat × Nat × Nat) := [(0, 9, 12, 31), (0, 9, 15, 13)]
def hdH_part : List eHn := [("java/lang/IndexOutOfBoundsException", 12, 13, 3), ("java/lang/IllegalStateException", 15, 16, 3)]
theorem hkH_part : ∀ q ∈ hdH_part, hOK RL hhH_part 4 q := (List.forall_mem_cons.mpr ⟨⟨⟨[], ⟨0, 9, 12, 31⟩, [⟨0, 9, 15, 13⟩], rfl, (fun z hz => absurd hz List.not_mem_nil), by decide, by decide, rfl, tb1141⟩, xb1152⟩, (List.forall_mem_cons.mpr ⟨⟨⟨[⟨0, 9, 12, 31⟩], ⟨0, 9, 15, 13⟩, [], rfl, (fun z hz => by rw [List.mem_singleton.mp hz]; exact ⟨by decide, "java/lang/IndexOutOfBoundsException", tb1141, by decide⟩), by decide, by decide, rfl, tb731⟩, xb742⟩, (fun q hq => absurd hq List.not_mem_nil)⟩)⟩)
def gH_part : sP (sTb hhH_part) (RL, false, true, 4) := (sSeq (sBlk 18 (sSeq (sBlk 16 (sSeq (sBlk 13 (sSeq (sE (p_aload_n 0 2))
(sSeq (sE (p_iconst 1 (0)))
(sSeq (sE (p_aload_n 2 0))
(sSeq (sE (p_iload_n 3 1))
(sSeq (p_try (hh := hhH_part) 4 2 (.invokevirtual 107) _ mX12_part (eLnkV (ci := 10) (by decide) rfl tb1379 tb1380 tb1381 (by decide +kernel)) hdH_part hkH_part)
(sSeq (sE (p_i2l 7))
(sSeq (sE (p_last 8))
(sSeq (sE (p_goto 9 (9) 18 (by decide)))
(sE (p_stuck 12 13)))))))))))
(sSeq (sE (p_iconst 13 (1)))
(sSeq (sE (p_ireturn 14 15))
(sE (p_stuck 15 16))))))
(sSeq (sE (p_iconst 16 (2)))
(sE (p_ireturn 17 18)))))
(sSeq (sE (p_iconst 18 (0)))
(sE (p_ireturn 19 20))))
def mH_part : eHt hhH_part := eMakeH yH_part method_30_code 4 (some .int) gH_part tb1378 tb0 (by decide +kernel) (by decide +kernel)
theorem mH_part_c : hCall mH_part = sGo (some .int) gH_part := rfl

def yH_divide : MethodName := ⟨RL, "divide", "(LRootDiscs;I[J)I"⟩
def hhH_divide : List (Nat × Nat × Nat × Nat) := [(0, 9, 12, 19), (0, 9, 15, 13)]
def hdH_divide : List eHn := [("java/lang/IllegalArgumentException", 12, 13, 3), ("java/lang/IllegalStateException", 15, 16, 3)]
theorem hkH_divide : ∀ q ∈ hdH_divide, hOK RL hhH_divide 4 q := (List.forall_mem_cons.mpr ⟨⟨⟨[], ⟨0, 9, 12, 19⟩, [⟨0, 9, 15, 13⟩], rfl, (fun z hz => absurd hz List.not_mem_nil), by decide, by decide, rfl, tb814⟩, xb821⟩, (List.forall_mem_cons.mpr ⟨⟨⟨[⟨0, 9, 12, 19⟩], ⟨0, 9, 15, 13⟩, [], rfl, (fun z hz => by rw [List.mem_singleton.mp hz]; exact ⟨by decide, "java/lang/IllegalArgumentException", tb814, by decide⟩), by decide, by decide, rfl, tb731⟩, xb742⟩, (fun q hq => absurd hq List.not_mem_nil)⟩)⟩)
def gH_divide : sP (sTb hhH_divide) (RL, false, true, 4) := (sSeq (sBlk 18 (sSeq (sBlk 16 (sSeq (sBlk 13 (sSeq (sE (p_aload_n 0 2))
(sSeq (sE (p_iconst 1 (0)))
(sSeq (sE (p_aload_n 2 0))
(sSeq (sE (p_iload_n 3 1))
(sSeq (p_try (hh := hhH_divide) 4 2 (.invokevirtual 110) _ mX12_divide (eLnkV (ci := 10) (by decide) rfl tb1389 tb1390 tb1391 (by decide +kernel)) hdH_divide hkH_divide)
(sSeq (sE (p_i2l 7))
(sSeq (sE (p_last 8))
(sSeq (sE (p_goto 9 (9) 18 (by decide)))
(sE (p_stuck 12 13)))))))))))
(sSeq (sE (p_iconst 13 (1)))
(sSeq (sE (p_ireturn 14 15))
(sE (p_stuck 15 16))))))
(sSeq (sE (p_iconst 16 (2)))
(sE (p_ireturn 17 18)))))
(sSeq (sE (p_iconst 18 (0)))
(sE (p_ireturn 19 20))))
def mH_divide : eHt hhH_divide := eMakeH yH_divide method_31_code 4 (some .int) gH_divide tb1388 tb0 (by decide +kernel) (by decide +kernel)
theorem mH_divide_c : hCall mH_divide = sGo (some .int) gH_divide := rfl

def yH_dividePair : MethodName := ⟨RL, "dividePair", "(LRootDiscs;II[J)I"⟩
def hhH_dividePair : List (Nat × Nat × Nat × Nat) := [(0, 10, 13, 19), (0, 10, 17, 13)]
def hdH_dividePair : List eHn := [("java/lang/IllegalArgumentException", 13, 15, 4), ("java/lang/IllegalStateException", 17, 19, 4)]
theorem hkH_dividePair : ∀ q ∈ hdH_dividePair, hOK RL hhH_dividePair 5 q := (List.forall_mem_cons.mpr ⟨⟨⟨[], ⟨0, 10, 13, 19⟩, [⟨0, 10, 17, 13⟩], rfl, (fun z hz => absurd hz List.not_mem_nil), by decide, by decide, rfl, tb814⟩, xb821⟩, (List.forall_mem_cons.mpr ⟨⟨⟨[⟨0, 10, 13, 19⟩], ⟨0, 10, 17, 13⟩, [], rfl, (fun z hz => by rw [List.mem_singleton.mp hz]; exact ⟨by decide, "java/lang/IllegalArgumentException", tb814, by decide⟩), by decide, by decide, rfl, tb731⟩, xb742⟩, (fun q hq => absurd hq List.not_mem_nil)⟩)⟩)
def gH_dividePair : sP (sTb hhH_dividePair) (RL, false, true, 5) := (sSeq (sBlk 21 (sSeq (sBlk 19 (sSeq (sBlk 15 (sSeq (sE (p_aload_n 0 3))
(sSeq (sE (p_iconst 1 (0)))
(sSeq (sE (p_aload_n 2 0))
(sSeq (sE (p_iload_n 3 1))
(sSeq (sE (p_iload_n 4 2))
(sSeq (p_try (hh := hhH_dividePair) 5 3 (.invokevirtual 113) _ mX12_dividePair (eLnkV (ci := 10) (by decide) rfl tb1397 tb1398 tb1399 (by decide +kernel)) hdH_dividePair hkH_dividePair)
(sSeq (sE (p_i2l 8))
(sSeq (sE (p_last 9))
(sSeq (sE (p_goto 10 (11) 21 (by decide)))
(sE (p_stuck 13 15))))))))))))
(sSeq (sE (p_iconst 15 (1)))
(sSeq (sE (p_ireturn 16 17))
(sE (p_stuck 17 19))))))
(sSeq (sE (p_iconst 19 (2)))
(sE (p_ireturn 20 21)))))
(sSeq (sE (p_iconst 21 (0)))
(sE (p_ireturn 22 23))))
def mH_dividePair : eHt hhH_dividePair := eMakeH yH_dividePair method_32_code 5 (some .int) gH_dividePair tb1396 tb0 (by decide +kernel) (by decide +kernel)
theorem mH_dividePair_c : hCall mH_dividePair = sGo (some .int) gH_dividePair := rfl

def yH_setGoal : MethodName := ⟨RL, "setGoal", "(LRootDiscs;I[J)I"⟩
def hhH_setGoal : List (Nat × Nat × Nat × Nat) := [(0, 9, 12, 19)]
def hdH_setGoal : List eHn := [("java/lang/IllegalArgumentException", 12, 13, 3)]
theorem hkH_setGoal : ∀ q ∈ hdH_setGoal, hOK RL hhH_setGoal 4 q := (List.forall_mem_cons.mpr ⟨⟨⟨[], ⟨0, 9, 12, 19⟩, [], rfl, (fun z hz => absurd hz List.not_mem_nil), by decide, by decide, rfl, tb814⟩, xb821⟩, (fun q hq => absurd hq List.not_mem_nil)⟩)
def gH_setGoal : sP (sTb hhH_setGoal) (RL, false, true, 4) := (sSeq (sBlk 15 (sSeq (sBlk 13 (sSeq (sE (p_aload_n 0 2))
(sSeq (sE (p_iconst 1 (0)))
(sSeq (sE (p_aload_n 2 0))
(sSeq (sE (p_iload_n 3 1))
(sSeq (p_try (hh := hhH_setGoal) 4 2 (.invokevirtual 116) _ mX12_setGoal (eLnkV (ci := 10) (by decide) rfl tb1404 tb1405 tb1406 (by decide +kernel)) hdH_setGoal hkH_setGoal)
(sSeq (sE (p_i2l 7))
(sSeq (sE (p_last 8))
(sSeq (sE (p_goto 9 (6) 15 (by decide)))
(sE (p_stuck 12 13)))))))))))
(sSeq (sE (p_iconst 13 (1)))
(sE (p_ireturn 14 15)))))
(sSeq (sE (p_iconst 15 (0)))
(sE (p_ireturn 16 17))))
def mH_setGoal : eHt hhH_setGoal := eMakeH yH_setGoal method_33_code 4 (some .int) gH_setGoal tb1403 tb0 (by decide +kernel) (by decide +kernel)
theorem mH_setGoal_c : hCall mH_setGoal = sGo (some .int) gH_setGoal := rfl

def yH_reportByte : MethodName := ⟨RL, "reportByte", "(LRootDiscs;I[J)I"⟩
def hhH_reportByte : List (Nat × Nat × Nat × Nat) := [(0, 9, 12, 31)]
def hdH_reportByte : List eHn := [("java/lang/IndexOutOfBoundsException", 12, 13, 3)]
theorem hkH_reportByte : ∀ q ∈ hdH_reportByte, hOK RL hhH_reportByte 4 q := (List.forall_mem_cons.mpr ⟨⟨⟨[], ⟨0, 9, 12, 31⟩, [], rfl, (fun z hz => absurd hz List.not_mem_nil), by decide, by decide, rfl, tb1141⟩, xb1152⟩, (fun q hq => absurd hq List.not_mem_nil)⟩)
def gH_reportByte : sP (sTb hhH_reportByte) (RL, false, true, 4) := (sSeq (sBlk 15 (sSeq (sBlk 13 (sSeq (sE (p_aload_n 0 2))
(sSeq (sE (p_iconst 1 (0)))
(sSeq (sE (p_aload_n 2 0))
(sSeq (sE (p_iload_n 3 1))
(sSeq (p_try (hh := hhH_reportByte) 4 2 (.invokevirtual 119) _ mX12_reportByte (eLnkV (ci := 10) (by decide) rfl tb1412 tb1413 tb1414 (by decide +kernel)) hdH_reportByte hkH_reportByte)
(sSeq (sE (p_i2l 7))
(sSeq (sE (p_last 8))
(sSeq (sE (p_goto 9 (6) 15 (by decide)))
(sE (p_stuck 12 13)))))))))))
(sSeq (sE (p_iconst 13 (1)))
(sE (p_ireturn 14 15)))))
(sSeq (sE (p_iconst 15 (0)))
(sE (p_ireturn 16 17))))
def mH_reportByte : eHt hhH_reportByte := eMakeH yH_reportByte method_34_code 4 (some .int) gH_reportByte tb1411 tb0 (by decide +kernel) (by decide +kernel)
theorem mH_reportByte_c : hCall mH_reportByte = sGo (some .int) gH_reportByte := rfl

def yH_restore : MethodName := ⟨RL, "restore", "(LRootDiscs;[J)I"⟩
def hhH_restore : List (Nat × Nat × Nat × Nat) := [(0, 8, 11, 13)]
def hdH_restore : List eHn := [("java/lang/IllegalStateException", 11, 12, 2)]
theorem hkH_restore : ∀ q ∈ hdH_restore, hOK RL hhH_restore 3 q := (List.forall_mem_cons.mpr ⟨⟨⟨[], ⟨0, 8, 11, 13⟩, [], rfl, (fun z hz => absurd hz List.not_mem_nil), by decide, by decide, rfl, tb731⟩, xb742⟩, (fun q hq => absurd hq List.not_mem_nil)⟩)
def gH_restore : sP (sTb hhH_restore) (RL, false, true, 3) := (sSeq (sBlk 14 (sSeq (sBlk 12 (sSeq (sE (p_aload_n 0 1))
(sSeq (sE (p_iconst 1 (0)))
(sSeq (sE (p_aload_n 2 0))
(sSeq (p_try (hh := hhH_restore) 3 1 (.invokevirtual 122) _ mX12_restore (eLnkV (ci := 10) (by decide) rfl tb1420 tb1421 tb1422 (by decide +kernel)) hdH_restore hkH_restore)
(sSeq (sE (p_i2l 6))
(sSeq (sE (p_last 7))
(sSeq (sE (p_goto 8 (6) 14 (by decide)))
(sE (p_stuck 11 12))))))))))
(sSeq (sE (p_iconst 12 (1)))
(sE (p_ireturn 13 14)))))
(sSeq (sE (p_iconst 14 (0)))
(sE (p_ireturn 15 16))))
def mH_restore : eHt hhH_restore := eMakeH yH_restore method_35_code 3 (some .int) gH_restore tb1419 tb0 (by decide +kernel) (by decide +kernel)
theorem mH_restore_c : hCall mH_restore = sGo (some .int) gH_restore := rfl
