/-! methods -/
set_option maxRecDepth 100000 in
theorem abMa96 : abMks 96 [(995, 88), (1000, 88), (1004, 90), (1008, 90), (1012, 84), (1016, 88)] = true := by decide +kernel
set_option maxRecDepth 100000 in
theorem abMa102 : abMks 102 [(1022, 84), (1026, 84), (1029, 84), (1033, 88), (1037, 90), (1041, 86)] = true := by decide +kernel
set_option maxRecDepth 100000 in
theorem abMa108 : abMks 108 [(1047, 90), (1055, 90), (1060, 90), (1064, 90), (1068, 84), (1074, 84)] = true := by decide +kernel
set_option maxRecDepth 100000 in
theorem abMa114 : abMks 114 [(1079, 84), (1083, 90), (1087, 92), (1092, 91), (1098, 84), (1102, 91)] = true := by decide +kernel
set_option maxRecDepth 100000 in
theorem abMa120 : abMks 120 [(1106, 84), (1110, 91), (1114, 91), (1122, 91), (1129, 84), (1133, 91)] = true := by decide +kernel
set_option maxRecDepth 100000 in
theorem abMa126 : abMks 126 [(1137, 84), (1141, 90), (1146, 84), (1149, 84), (1153, 88), (1157, 87)] = true := by decide +kernel
set_option maxRecDepth 100000 in
theorem abMa132 : abMks 132 [(1161, 87), (1165, 87), (1168, 87), (1172, 90), (1177, 90), (1181, 84)] = true := by decide +kernel
set_option maxRecDepth 100000 in
theorem abMa138 : abMks 138 [(1185, 84), (1189, 84), (1193, 84), (1197, 95), (1203, 90), (1207, 95)] = true := by decide +kernel
set_option maxRecDepth 100000 in
theorem abMa144 : abMks 144 [(1211, 95), (1215, 95), (1221, 84), (1225, 84), (1230, 84), (1234, 89)] = true := by decide +kernel
set_option maxRecDepth 100000 in
theorem abMa150 : abMks 150 [(1239, 84), (1243, 88), (1247, 90), (1251, 88), (1255, 84), (1260, 86)] = true := by decide +kernel
set_option maxRecDepth 100000 in
theorem abMa156 : abMks 156 [(1264, 84), (1268, 88), (1272, 88), (1276, 88), (1283, 84), (1287, 84)] = true := by decide +kernel
set_option maxRecDepth 100000 in
theorem abMa162 : abMks 162 [(1291, 88), (1296, 89), (1302, 84), (1306, 84), (1310, 93), (1314, 84)] = true := by decide +kernel
set_option maxRecDepth 100000 in
theorem abMa168 : abMks 168 [(1318, 93), (1322, 84), (1326, 93), (1332, 96), (1336, 96), (1339, 96)] = true := by decide +kernel
set_option maxRecDepth 100000 in
theorem abMa174 : abMks 174 [(1343, 96), (1470, 96), (1474, 96), (1478, 96), (1482, 96), (1486, 96)] = true := by decide +kernel
set_option maxRecDepth 100000 in
theorem abMa180 : abMks 180 [(1490, 96), (1494, 96), (1497, 96), (1501, 96), (1505, 96), (1509, 96)] = true := by decide +kernel
set_option maxRecDepth 100000 in
theorem abMa186 : abMks 186 [(1519, 96), (1523, 96), (1528, 96), (1537, 96), (1541, 96), (1545, 96)] = true := by decide +kernel
