set_option maxRecDepth 100000 in
theorem cd0_ : ([0, 1, 2, 3, 4, 5, 6, 7, 8, 9] : List Nat).map cw_ = ([362, 1403, 456, 452, 1409, 1340, 1384, 1345, 1364, 1374] : List Nat).filterMap (fun i => lw_tbl[i]?) := rfl
set_option maxRecDepth 100000 in
theorem cd1_ : ([10, 11, 12, 13, 14, 15, 16, 17, 18, 19] : List Nat).map cw_ = ([134, 676, 655, 620, 633, 1077, 1288, 692, 659, 664] : List Nat).filterMap (fun i => lw_tbl[i]?) := rfl
set_option maxRecDepth 100000 in
theorem cd2_ : ([20, 21, 22, 23, 24, 25, 26, 27, 28, 29] : List Nat).map cw_ = ([1081, 1058, 1129, 680, 1357, 1073, 164, 1185, 1110, 1163] : List Nat).filterMap (fun i => lw_tbl[i]?) := rfl
set_option maxRecDepth 100000 in
theorem cd3_ : ([30, 31, 32, 33, 34, 35, 36, 37, 38, 39] : List Nat).map cw_ = ([1333, 1202, 643, 647, 1173, 1094, 1090, 639, 1197, 1177] : List Nat).filterMap (fun i => lw_tbl[i]?) := rfl
set_option maxRecDepth 100000 in
theorem cd4_ : ([40, 41, 42, 43, 44, 45, 46, 47, 48, 49] : List Nat).map cw_ = ([1181, 1193, 1189, 240, 1050, 1029, 1021, 524, 688, 484] : List Nat).filterMap (fun i => lw_tbl[i]?) := rfl
set_option maxRecDepth 100000 in
theorem cd5_ : ([50, 51, 52, 53, 54, 55, 56, 57, 58, 59] : List Nat).map cw_ = ([493, 684, 222, 1388, 444, 1432, 468, 1314, 1379, 1420] : List Nat).filterMap (fun i => lw_tbl[i]?) := rfl
set_option maxRecDepth 100000 in
theorem cd6_ : ([60, 61, 62, 63, 64, 65, 66, 67, 68, 69] : List Nat).map cw_ = ([480, 300, 1272, 1117, 1114, 350, 1545, 1539, 1550, 294] : List Nat).filterMap (fun i => lw_tbl[i]?) := rfl
set_option maxRecDepth 100000 in
theorem cd7_ : ([70, 71, 72, 73, 74, 75, 76, 77, 78, 79] : List Nat).map cw_ = ([1268, 1085, 1106, 1122, 1099, 325, 1525, 1513, 1041, 1037] : List Nat).filterMap (fun i => lw_tbl[i]?) := rfl
set_option maxRecDepth 100000 in
theorem cd8_ : ([80, 81, 82, 83, 84, 85, 86, 87, 88, 89] : List Nat).map cw_ = ([1064, 1068, 1509, 1134, 120, 505, 448, 501, 1138, 472] : List Nat).filterMap (fun i => lw_tbl[i]?) := rfl
set_option maxRecDepth 100000 in
theorem cd9_ : ([90, 91, 92, 93, 94, 95, 96, 97, 98, 99] : List Nat).map cw_ = ([1258, 1206, 1169, 436, 1369, 1394, 1350, 1398, 432, 1462] : List Nat).filterMap (fun i => lw_tbl[i]?) := rfl
set_option maxRecDepth 100000 in
theorem cd10_ : ([100, 101, 102, 103, 104, 105, 106, 107, 108, 109] : List Nat).map cw_ = ([1437, 1142, 515, 248, 497, 520, 628, 668, 672, 651] : List Nat).filterMap (fun i => lw_tbl[i]?) := rfl
set_option maxRecDepth 100000 in
theorem cd11_ : ([110, 111, 112, 113, 114, 115, 116, 117, 118, 119] : List Nat).map cw_ = ([624, 616, 112, 1481, 1282, 1025, 1445, 1033, 1146, 1427] : List Nat).filterMap (fun i => lw_tbl[i]?) := rfl
set_option maxRecDepth 100000 in
theorem cd12_ : ([120, 121, 122, 123, 124, 125, 126, 127, 128, 129] : List Nat).map cw_ = ([1458, 1535, 1045, 1416, 1054, 510, 1490, 1498, 1473, 1304] : List Nat).filterMap (fun i => lw_tbl[i]?) := rfl
set_option maxRecDepth 100000 in
theorem cd13_ : ([130, 131, 132, 133, 134, 135, 136, 137, 138, 139] : List Nat).map cw_ = ([1237, 476, 440, 1521, 1154, 464, 1308, 1158, 1295, 1469] : List Nat).filterMap (fun i => lw_tbl[i]?) := rfl
set_option maxRecDepth 100000 in
theorem cd14_ : ([140, 141, 142, 143, 144, 145, 146, 147, 148, 149] : List Nat).map cw_ = ([428, 1505, 1555, 1882, 1772, 1736, 1870, 1825, 1937, 1768] : List Nat).filterMap (fun i => lw_tbl[i]?) := rfl
set_option maxRecDepth 100000 in
theorem cd15_ : ([150, 151, 152, 153, 154, 155, 156, 157, 158, 159] : List Nat).map cw_ = ([1961, 1969, 1817, 1829, 1965, 1760, 1941, 1748, 1809, 1717] : List Nat).filterMap (fun i => lw_tbl[i]?) := rfl
set_option maxRecDepth 100000 in
theorem cd16_ : ([160, 161, 162, 163, 164, 165, 166, 167, 168, 169] : List Nat).map cw_ = ([1953, 1945, 1949, 1866, 1957, 1878, 1721, 1764, 1862, 1886] : List Nat).filterMap (fun i => lw_tbl[i]?) := rfl
set_option maxRecDepth 100000 in
theorem cd17_ : ([170, 171, 172, 173, 174, 175, 176, 177, 178, 179] : List Nat).map cw_ = ([1924, 1744, 1732, 1854, 1841, 1794, 1833, 1786, 1776, 1790] : List Nat).filterMap (fun i => lw_tbl[i]?) := rfl
set_option maxRecDepth 100000 in
theorem cd18_ : ([180, 181, 182, 183, 184, 185, 186, 187, 188, 189] : List Nat).map cw_ = ([1780, 1902, 1906, 1890, 1914, 1920, 1898, 1894, 1802, 1837] : List Nat).filterMap (fun i => lw_tbl[i]?) := rfl
set_option maxRecDepth 100000 in
theorem cd19_ : ([190, 191, 192, 193, 194, 195, 196, 197, 198, 199] : List Nat).map cw_ = ([1846, 1858, 1850, 1813, 1933, 1713, 1821, 1756, 1752, 1725] : List Nat).filterMap (fun i => lw_tbl[i]?) := rfl
set_option maxRecDepth 100000 in
theorem cd20_ : ([200, 201, 202, 203, 204, 205, 206, 207, 208, 209] : List Nat).map cw_ = ([1728, 1805, 1740, 1701, 1874, 1705, 1929, 1708, 1798, 194] : List Nat).filterMap (fun i => lw_tbl[i]?) := rfl
set_option maxRecDepth 100000 in
theorem cd21_ : ([210, 211, 212, 213, 214, 215, 216, 217, 218, 219] : List Nat).map cw_ = ([696, 534, 538, 488, 612, 602, 542, 546, 700, 528] : List Nat).filterMap (fun i => lw_tbl[i]?) := rfl
set_option maxRecDepth 100000 in
theorem cd22_ : ([220, 221, 222, 223, 224, 225, 226, 227, 228, 229] : List Nat).map cw_ = ([197, 200, 559, 587, 460, 1125, 552, 593, 605, 608] : List Nat).filterMap (fun i => lw_tbl[i]?) := rfl
set_option maxRecDepth 100000 in
theorem cd23_ : ([230, 231, 232, 233, 234, 235, 236, 237, 239] : List Nat).map cw_ = ([549, 1477, 1278, 1440, 1423, 1454, 1531, 1412, 1486] : List Nat).filterMap (fun i => lw_tbl[i]?) := rfl
set_option maxRecDepth 100000 in
theorem cd24_ : ([240, 241, 242, 243, 244, 245, 246, 247] : List Nat).map cw_ = ([1494, 1299, 1231, 1517, 1149, 1291, 1465, 1501] : List Nat).filterMap (fun i => lw_tbl[i]?) := rfl
