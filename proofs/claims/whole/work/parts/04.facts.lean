/-! the words of the tables that my tables need, by their places; first rows by wip/gen/gen_facts.py -/
def mplc : List (Nat × Nat × Nat × Nat × Nat) := [(162, 0, 161, 0, 137), (170, 0, 169, 0, 138), (175, 0, 174, 0, 138), (211, 0, 210, 0, 139), (275, 0, 274, 0, 140), (302, 0, 301, 0, 141), (310, 0, 309, 0, 142), (326, 0, 325, 0, 143), (380, 0, 379, 0, 144), (404, 0, 403, 0, 145), (432, 0, 431, 0, 146), (447, 0, 446, 0, 147), (480, 0, 479, 1, 147), (486, 0, 485, 2, 147), (493, 0, 492, 3, 147), (497, 0, 496, 4, 147), (500, 1, 499, 0, 137), (504, 0, 503, 5, 147), (507, 1, 506, 0, 147), (511, 0, 510, 6, 147), (515, 0, 514, 7, 147), (519, 0, 518, 8, 147), (522, 1, 521, 0, 147), (587, 0, 585, 586, 137), (591, 0, 589, 590, 137), (595, 0, 593, 594, 137), (599, 0, 598, 9, 137), (603, 0, 602, 10, 137), (606, 1, 605, 0, 137), (611, 0, 610, 11, 139), (615, 0, 614, 12, 140), (619, 0, 618, 13, 137), (623, 0, 621, 622, 137), (627, 0, 626, 14, 144), (631, 1, 630, 0, 144), (635, 0, 634, 15, 138), (639, 0, 638, 16, 144), (644, 0, 643, 17, 139), (648, 0, 646, 647, 137), (652, 0, 651, 18, 137), (657, 0, 655, 656, 137), (661, 0, 660, 19, 139), (665, 0, 664, 20, 138), (669, 0, 668, 21, 139), (672, 1, 671, 0, 137), (676, 0, 675, 22, 147), (679, 1, 678, 0, 147), (682, 1, 681, 0, 147), (686, 0, 684, 685, 137), (690, 0, 688, 689, 137), (693, 1, 692, 0, 137), (699, 0, 698, 23, 139), (703, 0, 701, 702, 137), (707, 0, 706, 24, 139), (714, 0, 713, 25, 137), (718, 0, 717, 26, 141), (722, 0, 721, 27, 141), (726, 0, 725, 28, 142), (730, 0, 729, 29, 143), (736, 0, 735, 30, 142), (741, 0, 740, 31, 142), (746, 0, 745, 32, 142), (750, 0, 749, 33, 143), (754, 0, 753, 34, 142), (758, 0, 757, 35, 141), (762, 0, 761, 36, 143), (767, 0, 766, 37, 141), (771, 0, 770, 38, 141), (775, 1, 774, 0, 156), (782, 0, 781, 39, 140), (788, 0, 787, 40, 146), (792, 0, 791, 41, 146), (796, 0, 794, 795, 137), (800, 0, 799, 42, 139), (805, 1, 804, 0, 157), (812, 0, 811, 43, 137), (816, 0, 814, 815, 137), (820, 0, 819, 44, 139), (824, 0, 822, 823, 137), (828, 0, 827, 45, 139), (833, 0, 831, 832, 137), (837, 0, 836, 46, 139), (841, 0, 839, 840, 137), (845, 0, 844, 47, 137), (848, 1, 847, 0, 137), (851, 1, 850, 0, 137), (856, 0, 855, 48, 137), (860, 0, 859, 49, 137), (864, 0, 863, 50, 137), (869, 0, 867, 868, 137), (873, 0, 872, 51, 140), (877, 0, 875, 876, 137), (881, 0, 880, 52, 137), (887, 0, 886, 53, 143), (893, 0, 891, 892, 137), (897, 0, 896, 54, 141), (902, 0, 900, 901, 137), (906, 0, 904, 905, 137), (911, 0, 910, 55, 141), (916, 0, 915, 56, 141), (921, 0, 920, 57, 138), (927, 0, 925, 926, 137), (931, 0, 930, 58, 141), (938, 0, 937, 59, 138), (942, 0, 941, 60, 145), (946, 0, 945, 61, 145), (950, 0, 949, 62, 145), (954, 0, 953, 63, 145), (959, 0, 958, 64, 145), (963, 0, 962, 65, 145), (967, 0, 966, 66, 145), (971, 0, 969, 970, 137), (975, 0, 974, 67, 141), (979, 0, 978, 68, 141), (984, 0, 982, 983, 137), (989, 0, 987, 988, 137), (993, 0, 992, 69, 143), (998, 0, 996, 997, 137), (1002, 0, 1000, 1001, 137), (1007, 0, 1005, 1006, 137), (1011, 0, 1010, 70, 139), (1016, 0, 1014, 1015, 137), (1020, 0, 1018, 1019, 137), (1024, 0, 1023, 71, 137), (1028, 0, 1027, 72, 139), (1032, 0, 1031, 73, 141), (1036, 0, 1034, 1035, 137), (1040, 0, 1038, 1039, 137), (1044, 0, 1042, 1043, 137), (1048, 0, 1046, 1047, 137), (1052, 0, 1050, 1051, 137), (1056, 0, 1055, 74, 137), (1060, 0, 1058, 1059, 137), (1064, 0, 1062, 1063, 137), (1068, 0, 1067, 75, 137), (1072, 0, 1070, 1071, 137), (1075, 1, 1074, 0, 137), (1078, 1, 1077, 0, 137), (1083, 0, 1082, 76, 137), (1087, 0, 1085, 1086, 137), (1091, 0, 1089, 1090, 137), (1094, 1, 1093, 0, 137), (1097, 1, 1096, 0, 137), (1100, 1, 1099, 0, 137), (1104, 0, 1102, 1103, 137), (1108, 0, 1106, 1107, 137), (1112, 0, 1111, 77, 137), (1116, 0, 1115, 78, 137), (1121, 0, 1119, 1120, 137), (1125, 0, 1124, 79, 140), (1129, 0, 1127, 1128, 137), (1133, 0, 1132, 80, 140), (1137, 0, 1135, 1136, 137), (1145, 0, 1143, 1144, 137), (1213, 0, 1211, 1212, 137), (1220, 0, 1218, 1219, 137), (1225, 0, 1224, 0, 149), (1364, 0, 1362, 1363, 149), (1368, 0, 1366, 1367, 149), (1372, 0, 1370, 1371, 149), (1375, 1, 1374, 0, 149), (1379, 0, 1377, 1378, 149), (1383, 0, 1382, 82, 149), (1387, 0, 1386, 83, 149), (1391, 0, 1390, 84, 149), (1395, 0, 1394, 85, 149), (1399, 0, 1398, 86, 149), (1403, 0, 1402, 87, 149), (1406, 1, 1405, 0, 149), (1410, 0, 1409, 88, 149), (1414, 0, 1413, 89, 149), (1418, 0, 1416, 1417, 149), (1422, 0, 1421, 90, 149), (1426, 0, 1425, 91, 149), (1430, 0, 1429, 92, 149), (1434, 0, 1432, 1433, 149), (1438, 0, 1437, 93, 149), (1442, 0, 1441, 94, 149), (1446, 0, 1445, 95, 149), (1450, 0, 1449, 96, 149), (1454, 0, 1453, 97, 149), (1458, 0, 1457, 98, 149), (1462, 0, 1461, 99, 149), (1465, 1, 1464, 0, 149), (1469, 0, 1467, 1468, 149), (1473, 0, 1472, 100, 149), (1477, 0, 1476, 101, 149), (1481, 0, 1480, 102, 149), (1485, 0, 1484, 103, 149), (1489, 0, 1488, 104, 149), (1493, 0, 1492, 105, 149), (1497, 0, 1496, 106, 149), (1503, 0, 1502, 107, 149), (1508, 0, 1507, 108, 149), (1512, 0, 1511, 109, 149), (1516, 0, 1514, 1515, 149), (1520, 0, 1519, 110, 149), (1524, 0, 1522, 1523, 149), (1528, 0, 1526, 1527, 149), (1532, 0, 1530, 1531, 149), (1536, 0, 1535, 111, 149), (1540, 0, 1538, 1539, 149), (1544, 0, 1543, 112, 149), (1547, 1, 1546, 0, 149), (1551, 0, 1550, 113, 149), (1555, 0, 1554, 114, 149), (1559, 0, 1558, 115, 149), (1563, 0, 1561, 1562, 149), (1567, 0, 1566, 116, 149), (1571, 0, 1570, 117, 149), (1575, 0, 1573, 1574, 149), (1579, 0, 1577, 1578, 149), (1583, 0, 1581, 1582, 149), (1587, 0, 1586, 118, 149), (1591, 0, 1589, 1590, 149), (1595, 0, 1594, 119, 149), (1599, 0, 1598, 120, 149), (1603, 0, 1602, 121, 149), (1607, 0, 1605, 1606, 149), (1611, 0, 1609, 1610, 149), (1615, 0, 1613, 1614, 149), (1619, 0, 1618, 122, 149), (1624, 0, 1622, 1623, 149), (1628, 0, 1627, 123, 149), (1632, 0, 1630, 1631, 149), (1639, 0, 1637, 1638, 149), (1646, 0, 1645, 124, 149), (1650, 0, 1649, 125, 149), (1654, 0, 1652, 1653, 149), (1657, 1, 1656, 0, 149), (1661, 0, 1659, 1660, 149), (1665, 0, 1663, 1664, 149), (1669, 0, 1668, 126, 149), (1673, 0, 1672, 127, 149), (1676, 1, 1675, 0, 149), (1680, 0, 1678, 1679, 149), (1684, 0, 1682, 1683, 149), (1688, 0, 1686, 1687, 149), (1692, 0, 1691, 128, 149), (1696, 0, 1694, 1695, 149), (1700, 0, 1698, 1699, 149), (1704, 0, 1703, 129, 149), (1708, 0, 1706, 1707, 149), (1712, 0, 1710, 1711, 149), (1716, 0, 1714, 1715, 149), (1720, 0, 1718, 1719, 149), (1724, 0, 1722, 1723, 149), (1728, 0, 1727, 130, 149), (1732, 0, 1730, 1731, 149), (1736, 0, 1734, 1735, 149), (1740, 0, 1739, 131, 149), (1743, 1, 1742, 0, 157), (1746, 1, 1745, 0, 156), (1751, 0, 1749, 1750, 149), (1754, 1, 1753, 0, 149), (1759, 0, 1758, 132, 149), (1762, 1, 1761, 0, 149), (1766, 0, 1764, 1765, 149), (1770, 0, 1768, 1769, 149), (1773, 1, 1772, 0, 149), (1776, 1, 1775, 0, 149), (1779, 1, 1778, 0, 149), (1783, 0, 1781, 1782, 149), (1787, 0, 1786, 133, 149), (1791, 0, 1789, 1790, 149), (1795, 0, 1794, 134, 149), (1800, 0, 1798, 1799, 149), (1804, 0, 1802, 1803, 149), (1808, 0, 1806, 1807, 149), (1812, 0, 1811, 135, 149), (1816, 0, 1814, 1815, 149)]
def fplc : List Nat := [349, 351, 352, 353, 355, 357, 346, 347, 229, 334, 185, 225, 243, 246, 220, 216, 234, 238, 176, 179, 182, 187, 188, 189, 382, 385, 387, 389, 177, 180, 407, 408, 409, 410, 411, 412, 406, 191, 280, 281, 282, 283, 284, 328, 331, 333, 336, 449, 450, 451, 452, 453, 454, 455, 456, 457, 217, 241, 221, 226, 214, 218, 222, 224, 228, 231, 235, 239, 242, 245, 213, 383, 386, 388, 390, 186, 434, 436, 313, 314, 312, 232, 236, 183, 329, 190, 526, 527, 528, 529, 530, 531, 532, 533, 534, 535, 536, 537, 538, 539, 540, 541, 542, 543, 544, 184, 215, 230, 384, 219, 233, 237, 240, 244, 247, 356, 358, 227, 332, 330, 350, 223, 335, 354, 178, 181, 285, 437, 435, 348, 1227, 1228, 1229, 1231, 1232, 1233, 1235, 1243, 1244, 1245, 1248, 1249, 1250, 1251, 1253, 1255, 1256, 1257, 1260, 1261, 1262, 1265, 1268, 1269, 1270, 1237, 1236, 1230, 1234, 1238, 1239, 1240, 1241, 1242, 1264, 1254, 1267, 1247, 1246, 1252, 1259, 1258, 1263, 1266]
def kplc : List Nat := [303, 308, 324, 723, 772, 759, 755, 764, 763, 768, 773, 932, 912, 918, 980, 976, 171, 172, 381, 628, 629, 632, 636, 640, 405, 943, 960, 947, 951, 956, 955, 964, 276, 279, 783, 784, 327, 888, 889, 994, 448, 483, 487, 490, 508, 516, 494, 498, 501, 505, 512, 523, 520, 677, 680, 212, 708, 670, 801, 802, 803, 829, 433, 311, 727, 731, 732, 733, 743, 738, 742, 747, 751, 163, 168, 209, 273, 300, 378, 402, 430, 445, 477, 596, 600, 607, 608, 604, 612, 616, 624, 641, 649, 662, 666, 894, 985, 658, 878, 883, 673, 691, 696, 704, 711, 779, 785, 789, 797, 809, 817, 825, 834, 842, 853, 846, 870, 884, 898, 908, 913, 923, 928, 933, 934, 935, 939, 972, 990, 695, 1008, 1012, 719, 1021, 1025, 1029, 1053, 1065, 1073, 1076, 1080, 1092, 715, 1109, 1122, 1130, 653, 852, 694, 849, 857, 865, 861, 882, 1095, 1098, 1113, 1226, 1474, 1373, 1384, 1392, 1396, 1427, 1400, 1388, 1380, 1404, 1407, 1411, 1423, 1419, 1443, 1447, 1451, 1439, 1455, 1459, 1463, 1435, 1498, 1499, 1494, 1505, 1490, 1500, 1486, 1509, 1470, 1478, 1482, 1517, 1533, 1545, 1552, 1541, 1548, 1556, 1568, 1564, 1584, 1592, 1600, 1596, 1616, 1620, 1625, 1635, 1647, 1643, 1640, 1655, 1674, 1666, 1670, 1689, 1701, 1725, 1737, 1741, 1760, 1752, 1756, 1774, 1777, 1771, 1784, 1792, 1809, 1744]
def iplc : List Nat := [737, 776, 777, 778, 1003, 1117, 1504, 1747, 1796]
def jplc : List Nat := [806, 807, 808, 907, 917, 922, 1079, 1633, 1634, 1755]
def nplc : List Nat := [166, 207, 271, 277, 298, 304, 306, 376, 400, 428, 443]
def cplc : List (Nat × Nat × List Nat) := [(299, 141, [359, 361, 363, 365, 367, 369, 371, 373]), (167, 138, [192, 194, 196, 198, 200, 202]), (377, 144, [391, 393, 395, 397]), (401, 145, [413, 415, 417, 419, 421, 423, 425]), (272, 140, [286, 288, 290, 292, 294]), (323, 143, [337, 339, 341, 343]), (444, 147, [458, 460, 462, 464, 466, 468, 470, 472, 474]), (208, 139, [248, 250, 252, 254, 256, 258, 260, 262, 264, 266, 268]), (429, 146, [438, 440]), (307, 142, [315, 317, 319]), (159, 137, [545, 547, 549, 551, 553, 555, 557, 559, 561, 563, 565, 567, 569, 571, 573, 575, 577, 579, 581]), (1222, 149, [1271, 1273, 1275, 1277, 1279, 1281, 1283, 1285, 1287, 1289, 1291, 1293, 1295, 1297, 1299, 1301, 1303, 1305, 1307, 1309, 1311, 1313, 1315, 1317, 1319, 1321, 1323, 1325, 1327, 1329, 1331, 1333, 1335, 1337, 1339, 1341, 1343, 1345, 1347, 1349, 1351, 1353, 1355, 1357])]
def cT (ci : Nat) : u_T := fun k => ((crow ci).1, frow ci k)
def cls : List vw_C := (List.range 12).map (fun ci => ((crow ci).1, cT ci, nfl ci))
theorem cls_at {ci : Nat} (h : ci < 12) : cls[ci]? = some ((crow ci).1, cT ci, nfl ci) := by
  simp [cls, h]
def GW : List Cond := lw_tbl.filter goodWord
def wsM (m : Nat) : List Cond := .code (mN m) (cod m) (mxl m) (rty m) :: GW
theorem in_GW {w : Cond} {i : Nat} (h : lw_tbl[i]? = some w) (g : goodWord w = true) : w ∈ GW := List.mem_filter.mpr ⟨List.mem_of_getElem? h, g⟩
def mpl (m : Nat) : Nat × Nat × Nat × Nat × Nat := mplc.getD m (0, 0, 0, 0, 0)
def chkM (m : Nat) : Bool :=
  let y : MethodName := mN m
  let q := mpl m
  decide (lw_tbl[q.2.2.2.2]? = some (.initialized y.cls)) && plainName y.cls &&
  decide (y.cls ≠ "java/lang/invoke/MethodHandle" ∧ y.cls ≠ "java/lang/invoke/VarHandle") &&
  (if q.2.1 = 1 then decide (lw_tbl[q.2.2.1]? = some (.static y)) else decide (lw_tbl[q.2.2.1]? = some (.instanceMethod y)) && (decide (y.name = "<init>") || decide (lw_tbl[q.2.2.2.1]? = some (.selects y.cls y y)))) &&
  (parseMethodDescriptor (mrow m).2.2.1).isSome
set_option maxRecDepth 100000 in
theorem mchk_0 : ((List.range 50).map (fun i => i + 0)).all chkM = true := by decide +kernel
set_option maxRecDepth 100000 in
theorem mchk_50 : ((List.range 50).map (fun i => i + 50)).all chkM = true := by decide +kernel
set_option maxRecDepth 100000 in
theorem mchk_100 : ((List.range 50).map (fun i => i + 100)).all chkM = true := by decide +kernel
set_option maxRecDepth 100000 in
theorem mchk_150 : ((List.range 50).map (fun i => i + 150)).all chkM = true := by decide +kernel
set_option maxRecDepth 100000 in
theorem mchk_200 : ((List.range 50).map (fun i => i + 200)).all chkM = true := by decide +kernel
set_option maxRecDepth 100000 in
theorem mchk_250 : ((List.range 21).map (fun i => i + 250)).all chkM = true := by decide +kernel
set_option maxRecDepth 100000 in
theorem mc_0 : lw_tbl[(mpl 0).1]? = some (.code (mN 0) (cod 0) (mxl 0) (rty 0)) := rfl
set_option maxRecDepth 100000 in
theorem mc_1 : lw_tbl[(mpl 1).1]? = some (.code (mN 1) (cod 1) (mxl 1) (rty 1)) := rfl
set_option maxRecDepth 100000 in
theorem mc_2 : lw_tbl[(mpl 2).1]? = some (.code (mN 2) (cod 2) (mxl 2) (rty 2)) := rfl
set_option maxRecDepth 100000 in
theorem mc_3 : lw_tbl[(mpl 3).1]? = some (.code (mN 3) (cod 3) (mxl 3) (rty 3)) := rfl
set_option maxRecDepth 100000 in
theorem mc_4 : lw_tbl[(mpl 4).1]? = some (.code (mN 4) (cod 4) (mxl 4) (rty 4)) := rfl
set_option maxRecDepth 100000 in
theorem mc_5 : lw_tbl[(mpl 5).1]? = some (.code (mN 5) (cod 5) (mxl 5) (rty 5)) := rfl
set_option maxRecDepth 100000 in
theorem mc_6 : lw_tbl[(mpl 6).1]? = some (.code (mN 6) (cod 6) (mxl 6) (rty 6)) := rfl
set_option maxRecDepth 100000 in
theorem mc_7 : lw_tbl[(mpl 7).1]? = some (.code (mN 7) (cod 7) (mxl 7) (rty 7)) := rfl
set_option maxRecDepth 100000 in
theorem mc_8 : lw_tbl[(mpl 8).1]? = some (.code (mN 8) (cod 8) (mxl 8) (rty 8)) := rfl
set_option maxRecDepth 100000 in
theorem mc_9 : lw_tbl[(mpl 9).1]? = some (.code (mN 9) (cod 9) (mxl 9) (rty 9)) := rfl
set_option maxRecDepth 100000 in
theorem mc_10 : lw_tbl[(mpl 10).1]? = some (.code (mN 10) (cod 10) (mxl 10) (rty 10)) := rfl
set_option maxRecDepth 100000 in
theorem mc_11 : lw_tbl[(mpl 11).1]? = some (.code (mN 11) (cod 11) (mxl 11) (rty 11)) := rfl
set_option maxRecDepth 100000 in
theorem mc_12 : lw_tbl[(mpl 12).1]? = some (.code (mN 12) (cod 12) (mxl 12) (rty 12)) := rfl
set_option maxRecDepth 100000 in
theorem mc_13 : lw_tbl[(mpl 13).1]? = some (.code (mN 13) (cod 13) (mxl 13) (rty 13)) := rfl
set_option maxRecDepth 100000 in
theorem mc_14 : lw_tbl[(mpl 14).1]? = some (.code (mN 14) (cod 14) (mxl 14) (rty 14)) := rfl
set_option maxRecDepth 100000 in
theorem mc_15 : lw_tbl[(mpl 15).1]? = some (.code (mN 15) (cod 15) (mxl 15) (rty 15)) := rfl
set_option maxRecDepth 100000 in
theorem mc_16 : lw_tbl[(mpl 16).1]? = some (.code (mN 16) (cod 16) (mxl 16) (rty 16)) := rfl
set_option maxRecDepth 100000 in
theorem mc_17 : lw_tbl[(mpl 17).1]? = some (.code (mN 17) (cod 17) (mxl 17) (rty 17)) := rfl
set_option maxRecDepth 100000 in
theorem mc_18 : lw_tbl[(mpl 18).1]? = some (.code (mN 18) (cod 18) (mxl 18) (rty 18)) := rfl
set_option maxRecDepth 100000 in
theorem mc_19 : lw_tbl[(mpl 19).1]? = some (.code (mN 19) (cod 19) (mxl 19) (rty 19)) := rfl
set_option maxRecDepth 100000 in
theorem mc_20 : lw_tbl[(mpl 20).1]? = some (.code (mN 20) (cod 20) (mxl 20) (rty 20)) := rfl
set_option maxRecDepth 100000 in
theorem mc_21 : lw_tbl[(mpl 21).1]? = some (.code (mN 21) (cod 21) (mxl 21) (rty 21)) := rfl
set_option maxRecDepth 100000 in
theorem mc_22 : lw_tbl[(mpl 22).1]? = some (.code (mN 22) (cod 22) (mxl 22) (rty 22)) := rfl
set_option maxRecDepth 100000 in
theorem mc_23 : lw_tbl[(mpl 23).1]? = some (.code (mN 23) (cod 23) (mxl 23) (rty 23)) := rfl
set_option maxRecDepth 100000 in
theorem mc_24 : lw_tbl[(mpl 24).1]? = some (.code (mN 24) (cod 24) (mxl 24) (rty 24)) := rfl
set_option maxRecDepth 100000 in
theorem mc_25 : lw_tbl[(mpl 25).1]? = some (.code (mN 25) (cod 25) (mxl 25) (rty 25)) := rfl
set_option maxRecDepth 100000 in
theorem mc_26 : lw_tbl[(mpl 26).1]? = some (.code (mN 26) (cod 26) (mxl 26) (rty 26)) := rfl
set_option maxRecDepth 100000 in
theorem mc_27 : lw_tbl[(mpl 27).1]? = some (.code (mN 27) (cod 27) (mxl 27) (rty 27)) := rfl
set_option maxRecDepth 100000 in
theorem mc_28 : lw_tbl[(mpl 28).1]? = some (.code (mN 28) (cod 28) (mxl 28) (rty 28)) := rfl
set_option maxRecDepth 100000 in
theorem mc_29 : lw_tbl[(mpl 29).1]? = some (.code (mN 29) (cod 29) (mxl 29) (rty 29)) := rfl
set_option maxRecDepth 100000 in
theorem mc_30 : lw_tbl[(mpl 30).1]? = some (.code (mN 30) (cod 30) (mxl 30) (rty 30)) := rfl
set_option maxRecDepth 100000 in
theorem mc_31 : lw_tbl[(mpl 31).1]? = some (.code (mN 31) (cod 31) (mxl 31) (rty 31)) := rfl
set_option maxRecDepth 100000 in
theorem mc_32 : lw_tbl[(mpl 32).1]? = some (.code (mN 32) (cod 32) (mxl 32) (rty 32)) := rfl
set_option maxRecDepth 100000 in
theorem mc_33 : lw_tbl[(mpl 33).1]? = some (.code (mN 33) (cod 33) (mxl 33) (rty 33)) := rfl
set_option maxRecDepth 100000 in
theorem mc_34 : lw_tbl[(mpl 34).1]? = some (.code (mN 34) (cod 34) (mxl 34) (rty 34)) := rfl
set_option maxRecDepth 100000 in
theorem mc_35 : lw_tbl[(mpl 35).1]? = some (.code (mN 35) (cod 35) (mxl 35) (rty 35)) := rfl
set_option maxRecDepth 100000 in
theorem mc_36 : lw_tbl[(mpl 36).1]? = some (.code (mN 36) (cod 36) (mxl 36) (rty 36)) := rfl
set_option maxRecDepth 100000 in
theorem mc_37 : lw_tbl[(mpl 37).1]? = some (.code (mN 37) (cod 37) (mxl 37) (rty 37)) := rfl
set_option maxRecDepth 100000 in
theorem mc_38 : lw_tbl[(mpl 38).1]? = some (.code (mN 38) (cod 38) (mxl 38) (rty 38)) := rfl
set_option maxRecDepth 100000 in
theorem mc_39 : lw_tbl[(mpl 39).1]? = some (.code (mN 39) (cod 39) (mxl 39) (rty 39)) := rfl
set_option maxRecDepth 100000 in
theorem mc_40 : lw_tbl[(mpl 40).1]? = some (.code (mN 40) (cod 40) (mxl 40) (rty 40)) := rfl
set_option maxRecDepth 100000 in
theorem mc_41 : lw_tbl[(mpl 41).1]? = some (.code (mN 41) (cod 41) (mxl 41) (rty 41)) := rfl
set_option maxRecDepth 100000 in
theorem mc_42 : lw_tbl[(mpl 42).1]? = some (.code (mN 42) (cod 42) (mxl 42) (rty 42)) := rfl
set_option maxRecDepth 100000 in
theorem mc_43 : lw_tbl[(mpl 43).1]? = some (.code (mN 43) (cod 43) (mxl 43) (rty 43)) := rfl
set_option maxRecDepth 100000 in
theorem mc_44 : lw_tbl[(mpl 44).1]? = some (.code (mN 44) (cod 44) (mxl 44) (rty 44)) := rfl
set_option maxRecDepth 100000 in
theorem mc_45 : lw_tbl[(mpl 45).1]? = some (.code (mN 45) (cod 45) (mxl 45) (rty 45)) := rfl
set_option maxRecDepth 100000 in
theorem mc_46 : lw_tbl[(mpl 46).1]? = some (.code (mN 46) (cod 46) (mxl 46) (rty 46)) := rfl
set_option maxRecDepth 100000 in
theorem mc_47 : lw_tbl[(mpl 47).1]? = some (.code (mN 47) (cod 47) (mxl 47) (rty 47)) := rfl
set_option maxRecDepth 100000 in
theorem mc_48 : lw_tbl[(mpl 48).1]? = some (.code (mN 48) (cod 48) (mxl 48) (rty 48)) := rfl
set_option maxRecDepth 100000 in
theorem mc_49 : lw_tbl[(mpl 49).1]? = some (.code (mN 49) (cod 49) (mxl 49) (rty 49)) := rfl
set_option maxRecDepth 100000 in
theorem mc_50 : lw_tbl[(mpl 50).1]? = some (.code (mN 50) (cod 50) (mxl 50) (rty 50)) := rfl
set_option maxRecDepth 100000 in
theorem mc_51 : lw_tbl[(mpl 51).1]? = some (.code (mN 51) (cod 51) (mxl 51) (rty 51)) := rfl
set_option maxRecDepth 100000 in
theorem mc_52 : lw_tbl[(mpl 52).1]? = some (.code (mN 52) (cod 52) (mxl 52) (rty 52)) := rfl
set_option maxRecDepth 100000 in
theorem mc_53 : lw_tbl[(mpl 53).1]? = some (.code (mN 53) (cod 53) (mxl 53) (rty 53)) := rfl
set_option maxRecDepth 100000 in
theorem mc_54 : lw_tbl[(mpl 54).1]? = some (.code (mN 54) (cod 54) (mxl 54) (rty 54)) := rfl
set_option maxRecDepth 100000 in
theorem mc_55 : lw_tbl[(mpl 55).1]? = some (.code (mN 55) (cod 55) (mxl 55) (rty 55)) := rfl
set_option maxRecDepth 100000 in
theorem mc_56 : lw_tbl[(mpl 56).1]? = some (.code (mN 56) (cod 56) (mxl 56) (rty 56)) := rfl
set_option maxRecDepth 100000 in
theorem mc_57 : lw_tbl[(mpl 57).1]? = some (.code (mN 57) (cod 57) (mxl 57) (rty 57)) := rfl
set_option maxRecDepth 100000 in
theorem mc_58 : lw_tbl[(mpl 58).1]? = some (.code (mN 58) (cod 58) (mxl 58) (rty 58)) := rfl
set_option maxRecDepth 100000 in
theorem mc_59 : lw_tbl[(mpl 59).1]? = some (.code (mN 59) (cod 59) (mxl 59) (rty 59)) := rfl
set_option maxRecDepth 100000 in
theorem mc_60 : lw_tbl[(mpl 60).1]? = some (.code (mN 60) (cod 60) (mxl 60) (rty 60)) := rfl
set_option maxRecDepth 100000 in
theorem mc_61 : lw_tbl[(mpl 61).1]? = some (.code (mN 61) (cod 61) (mxl 61) (rty 61)) := rfl
set_option maxRecDepth 100000 in
theorem mc_62 : lw_tbl[(mpl 62).1]? = some (.code (mN 62) (cod 62) (mxl 62) (rty 62)) := rfl
set_option maxRecDepth 100000 in
theorem mc_63 : lw_tbl[(mpl 63).1]? = some (.code (mN 63) (cod 63) (mxl 63) (rty 63)) := rfl
set_option maxRecDepth 100000 in
theorem mc_64 : lw_tbl[(mpl 64).1]? = some (.code (mN 64) (cod 64) (mxl 64) (rty 64)) := rfl
set_option maxRecDepth 100000 in
theorem mc_65 : lw_tbl[(mpl 65).1]? = some (.code (mN 65) (cod 65) (mxl 65) (rty 65)) := rfl
set_option maxRecDepth 100000 in
theorem mc_66 : lw_tbl[(mpl 66).1]? = some (.code (mN 66) (cod 66) (mxl 66) (rty 66)) := rfl
set_option maxRecDepth 100000 in
theorem mc_67 : lw_tbl[(mpl 67).1]? = some (.code (mN 67) (cod 67) (mxl 67) (rty 67)) := rfl
set_option maxRecDepth 100000 in
theorem mc_68 : lw_tbl[(mpl 68).1]? = some (.code (mN 68) (cod 68) (mxl 68) (rty 68)) := rfl
set_option maxRecDepth 100000 in
theorem mc_69 : lw_tbl[(mpl 69).1]? = some (.code (mN 69) (cod 69) (mxl 69) (rty 69)) := rfl
set_option maxRecDepth 100000 in
theorem mc_70 : lw_tbl[(mpl 70).1]? = some (.code (mN 70) (cod 70) (mxl 70) (rty 70)) := rfl
set_option maxRecDepth 100000 in
theorem mc_71 : lw_tbl[(mpl 71).1]? = some (.code (mN 71) (cod 71) (mxl 71) (rty 71)) := rfl
set_option maxRecDepth 100000 in
theorem mc_72 : lw_tbl[(mpl 72).1]? = some (.code (mN 72) (cod 72) (mxl 72) (rty 72)) := rfl
set_option maxRecDepth 100000 in
theorem mc_73 : lw_tbl[(mpl 73).1]? = some (.code (mN 73) (cod 73) (mxl 73) (rty 73)) := rfl
set_option maxRecDepth 100000 in
theorem mc_74 : lw_tbl[(mpl 74).1]? = some (.code (mN 74) (cod 74) (mxl 74) (rty 74)) := rfl
set_option maxRecDepth 100000 in
theorem mc_75 : lw_tbl[(mpl 75).1]? = some (.code (mN 75) (cod 75) (mxl 75) (rty 75)) := rfl
set_option maxRecDepth 100000 in
theorem mc_76 : lw_tbl[(mpl 76).1]? = some (.code (mN 76) (cod 76) (mxl 76) (rty 76)) := rfl
set_option maxRecDepth 100000 in
theorem mc_77 : lw_tbl[(mpl 77).1]? = some (.code (mN 77) (cod 77) (mxl 77) (rty 77)) := rfl
set_option maxRecDepth 100000 in
theorem mc_78 : lw_tbl[(mpl 78).1]? = some (.code (mN 78) (cod 78) (mxl 78) (rty 78)) := rfl
set_option maxRecDepth 100000 in
theorem mc_79 : lw_tbl[(mpl 79).1]? = some (.code (mN 79) (cod 79) (mxl 79) (rty 79)) := rfl
set_option maxRecDepth 100000 in
theorem mc_80 : lw_tbl[(mpl 80).1]? = some (.code (mN 80) (cod 80) (mxl 80) (rty 80)) := rfl
set_option maxRecDepth 100000 in
theorem mc_81 : lw_tbl[(mpl 81).1]? = some (.code (mN 81) (cod 81) (mxl 81) (rty 81)) := rfl
set_option maxRecDepth 100000 in
theorem mc_82 : lw_tbl[(mpl 82).1]? = some (.code (mN 82) (cod 82) (mxl 82) (rty 82)) := rfl
set_option maxRecDepth 100000 in
theorem mc_83 : lw_tbl[(mpl 83).1]? = some (.code (mN 83) (cod 83) (mxl 83) (rty 83)) := rfl
set_option maxRecDepth 100000 in
theorem mc_84 : lw_tbl[(mpl 84).1]? = some (.code (mN 84) (cod 84) (mxl 84) (rty 84)) := rfl
set_option maxRecDepth 100000 in
theorem mc_85 : lw_tbl[(mpl 85).1]? = some (.code (mN 85) (cod 85) (mxl 85) (rty 85)) := rfl
set_option maxRecDepth 100000 in
theorem mc_86 : lw_tbl[(mpl 86).1]? = some (.code (mN 86) (cod 86) (mxl 86) (rty 86)) := rfl
set_option maxRecDepth 100000 in
theorem mc_87 : lw_tbl[(mpl 87).1]? = some (.code (mN 87) (cod 87) (mxl 87) (rty 87)) := rfl
set_option maxRecDepth 100000 in
theorem mc_88 : lw_tbl[(mpl 88).1]? = some (.code (mN 88) (cod 88) (mxl 88) (rty 88)) := rfl
set_option maxRecDepth 100000 in
theorem mc_89 : lw_tbl[(mpl 89).1]? = some (.code (mN 89) (cod 89) (mxl 89) (rty 89)) := rfl
set_option maxRecDepth 100000 in
theorem mc_90 : lw_tbl[(mpl 90).1]? = some (.code (mN 90) (cod 90) (mxl 90) (rty 90)) := rfl
set_option maxRecDepth 100000 in
theorem mc_91 : lw_tbl[(mpl 91).1]? = some (.code (mN 91) (cod 91) (mxl 91) (rty 91)) := rfl
set_option maxRecDepth 100000 in
theorem mc_92 : lw_tbl[(mpl 92).1]? = some (.code (mN 92) (cod 92) (mxl 92) (rty 92)) := rfl
set_option maxRecDepth 100000 in
theorem mc_93 : lw_tbl[(mpl 93).1]? = some (.code (mN 93) (cod 93) (mxl 93) (rty 93)) := rfl
set_option maxRecDepth 100000 in
theorem mc_94 : lw_tbl[(mpl 94).1]? = some (.code (mN 94) (cod 94) (mxl 94) (rty 94)) := rfl
set_option maxRecDepth 100000 in
theorem mc_95 : lw_tbl[(mpl 95).1]? = some (.code (mN 95) (cod 95) (mxl 95) (rty 95)) := rfl
set_option maxRecDepth 100000 in
theorem mc_96 : lw_tbl[(mpl 96).1]? = some (.code (mN 96) (cod 96) (mxl 96) (rty 96)) := rfl
set_option maxRecDepth 100000 in
theorem mc_97 : lw_tbl[(mpl 97).1]? = some (.code (mN 97) (cod 97) (mxl 97) (rty 97)) := rfl
set_option maxRecDepth 100000 in
theorem mc_98 : lw_tbl[(mpl 98).1]? = some (.code (mN 98) (cod 98) (mxl 98) (rty 98)) := rfl
set_option maxRecDepth 100000 in
theorem mc_99 : lw_tbl[(mpl 99).1]? = some (.code (mN 99) (cod 99) (mxl 99) (rty 99)) := rfl
set_option maxRecDepth 100000 in
theorem mc_100 : lw_tbl[(mpl 100).1]? = some (.code (mN 100) (cod 100) (mxl 100) (rty 100)) := rfl
set_option maxRecDepth 100000 in
theorem mc_101 : lw_tbl[(mpl 101).1]? = some (.code (mN 101) (cod 101) (mxl 101) (rty 101)) := rfl
set_option maxRecDepth 100000 in
theorem mc_102 : lw_tbl[(mpl 102).1]? = some (.code (mN 102) (cod 102) (mxl 102) (rty 102)) := rfl
set_option maxRecDepth 100000 in
theorem mc_103 : lw_tbl[(mpl 103).1]? = some (.code (mN 103) (cod 103) (mxl 103) (rty 103)) := rfl
set_option maxRecDepth 100000 in
theorem mc_104 : lw_tbl[(mpl 104).1]? = some (.code (mN 104) (cod 104) (mxl 104) (rty 104)) := rfl
set_option maxRecDepth 100000 in
theorem mc_105 : lw_tbl[(mpl 105).1]? = some (.code (mN 105) (cod 105) (mxl 105) (rty 105)) := rfl
set_option maxRecDepth 100000 in
theorem mc_106 : lw_tbl[(mpl 106).1]? = some (.code (mN 106) (cod 106) (mxl 106) (rty 106)) := rfl
set_option maxRecDepth 100000 in
theorem mc_107 : lw_tbl[(mpl 107).1]? = some (.code (mN 107) (cod 107) (mxl 107) (rty 107)) := rfl
set_option maxRecDepth 100000 in
theorem mc_108 : lw_tbl[(mpl 108).1]? = some (.code (mN 108) (cod 108) (mxl 108) (rty 108)) := rfl
set_option maxRecDepth 100000 in
theorem mc_109 : lw_tbl[(mpl 109).1]? = some (.code (mN 109) (cod 109) (mxl 109) (rty 109)) := rfl
set_option maxRecDepth 100000 in
theorem mc_110 : lw_tbl[(mpl 110).1]? = some (.code (mN 110) (cod 110) (mxl 110) (rty 110)) := rfl
set_option maxRecDepth 100000 in
theorem mc_111 : lw_tbl[(mpl 111).1]? = some (.code (mN 111) (cod 111) (mxl 111) (rty 111)) := rfl
set_option maxRecDepth 100000 in
theorem mc_112 : lw_tbl[(mpl 112).1]? = some (.code (mN 112) (cod 112) (mxl 112) (rty 112)) := rfl
set_option maxRecDepth 100000 in
theorem mc_113 : lw_tbl[(mpl 113).1]? = some (.code (mN 113) (cod 113) (mxl 113) (rty 113)) := rfl
set_option maxRecDepth 100000 in
theorem mc_114 : lw_tbl[(mpl 114).1]? = some (.code (mN 114) (cod 114) (mxl 114) (rty 114)) := rfl
set_option maxRecDepth 100000 in
theorem mc_115 : lw_tbl[(mpl 115).1]? = some (.code (mN 115) (cod 115) (mxl 115) (rty 115)) := rfl
set_option maxRecDepth 100000 in
theorem mc_116 : lw_tbl[(mpl 116).1]? = some (.code (mN 116) (cod 116) (mxl 116) (rty 116)) := rfl
set_option maxRecDepth 100000 in
theorem mc_117 : lw_tbl[(mpl 117).1]? = some (.code (mN 117) (cod 117) (mxl 117) (rty 117)) := rfl
set_option maxRecDepth 100000 in
theorem mc_118 : lw_tbl[(mpl 118).1]? = some (.code (mN 118) (cod 118) (mxl 118) (rty 118)) := rfl
set_option maxRecDepth 100000 in
theorem mc_119 : lw_tbl[(mpl 119).1]? = some (.code (mN 119) (cod 119) (mxl 119) (rty 119)) := rfl
set_option maxRecDepth 100000 in
theorem mc_120 : lw_tbl[(mpl 120).1]? = some (.code (mN 120) (cod 120) (mxl 120) (rty 120)) := rfl
set_option maxRecDepth 100000 in
theorem mc_121 : lw_tbl[(mpl 121).1]? = some (.code (mN 121) (cod 121) (mxl 121) (rty 121)) := rfl
set_option maxRecDepth 100000 in
theorem mc_122 : lw_tbl[(mpl 122).1]? = some (.code (mN 122) (cod 122) (mxl 122) (rty 122)) := rfl
set_option maxRecDepth 100000 in
theorem mc_123 : lw_tbl[(mpl 123).1]? = some (.code (mN 123) (cod 123) (mxl 123) (rty 123)) := rfl
set_option maxRecDepth 100000 in
theorem mc_124 : lw_tbl[(mpl 124).1]? = some (.code (mN 124) (cod 124) (mxl 124) (rty 124)) := rfl
set_option maxRecDepth 100000 in
theorem mc_125 : lw_tbl[(mpl 125).1]? = some (.code (mN 125) (cod 125) (mxl 125) (rty 125)) := rfl
set_option maxRecDepth 100000 in
theorem mc_126 : lw_tbl[(mpl 126).1]? = some (.code (mN 126) (cod 126) (mxl 126) (rty 126)) := rfl
set_option maxRecDepth 100000 in
theorem mc_127 : lw_tbl[(mpl 127).1]? = some (.code (mN 127) (cod 127) (mxl 127) (rty 127)) := rfl
set_option maxRecDepth 100000 in
theorem mc_128 : lw_tbl[(mpl 128).1]? = some (.code (mN 128) (cod 128) (mxl 128) (rty 128)) := rfl
set_option maxRecDepth 100000 in
theorem mc_129 : lw_tbl[(mpl 129).1]? = some (.code (mN 129) (cod 129) (mxl 129) (rty 129)) := rfl
set_option maxRecDepth 100000 in
theorem mc_130 : lw_tbl[(mpl 130).1]? = some (.code (mN 130) (cod 130) (mxl 130) (rty 130)) := rfl
set_option maxRecDepth 100000 in
theorem mc_131 : lw_tbl[(mpl 131).1]? = some (.code (mN 131) (cod 131) (mxl 131) (rty 131)) := rfl
set_option maxRecDepth 100000 in
theorem mc_132 : lw_tbl[(mpl 132).1]? = some (.code (mN 132) (cod 132) (mxl 132) (rty 132)) := rfl
set_option maxRecDepth 100000 in
theorem mc_133 : lw_tbl[(mpl 133).1]? = some (.code (mN 133) (cod 133) (mxl 133) (rty 133)) := rfl
set_option maxRecDepth 100000 in
theorem mc_134 : lw_tbl[(mpl 134).1]? = some (.code (mN 134) (cod 134) (mxl 134) (rty 134)) := rfl
set_option maxRecDepth 100000 in
theorem mc_135 : lw_tbl[(mpl 135).1]? = some (.code (mN 135) (cod 135) (mxl 135) (rty 135)) := rfl
set_option maxRecDepth 100000 in
theorem mc_136 : lw_tbl[(mpl 136).1]? = some (.code (mN 136) (cod 136) (mxl 136) (rty 136)) := rfl
set_option maxRecDepth 100000 in
theorem mc_137 : lw_tbl[(mpl 137).1]? = some (.code (mN 137) (cod 137) (mxl 137) (rty 137)) := rfl
set_option maxRecDepth 100000 in
theorem mc_138 : lw_tbl[(mpl 138).1]? = some (.code (mN 138) (cod 138) (mxl 138) (rty 138)) := rfl
set_option maxRecDepth 100000 in
theorem mc_139 : lw_tbl[(mpl 139).1]? = some (.code (mN 139) (cod 139) (mxl 139) (rty 139)) := rfl
set_option maxRecDepth 100000 in
theorem mc_140 : lw_tbl[(mpl 140).1]? = some (.code (mN 140) (cod 140) (mxl 140) (rty 140)) := rfl
set_option maxRecDepth 100000 in
theorem mc_141 : lw_tbl[(mpl 141).1]? = some (.code (mN 141) (cod 141) (mxl 141) (rty 141)) := rfl
set_option maxRecDepth 100000 in
theorem mc_142 : lw_tbl[(mpl 142).1]? = some (.code (mN 142) (cod 142) (mxl 142) (rty 142)) := rfl
set_option maxRecDepth 100000 in
theorem mc_143 : lw_tbl[(mpl 143).1]? = some (.code (mN 143) (cod 143) (mxl 143) (rty 143)) := rfl
set_option maxRecDepth 100000 in
theorem mc_144 : lw_tbl[(mpl 144).1]? = some (.code (mN 144) (cod 144) (mxl 144) (rty 144)) := rfl
set_option maxRecDepth 100000 in
theorem mc_145 : lw_tbl[(mpl 145).1]? = some (.code (mN 145) (cod 145) (mxl 145) (rty 145)) := rfl
set_option maxRecDepth 100000 in
theorem mc_146 : lw_tbl[(mpl 146).1]? = some (.code (mN 146) (cod 146) (mxl 146) (rty 146)) := rfl
set_option maxRecDepth 100000 in
theorem mc_147 : lw_tbl[(mpl 147).1]? = some (.code (mN 147) (cod 147) (mxl 147) (rty 147)) := rfl
set_option maxRecDepth 100000 in
theorem mc_148 : lw_tbl[(mpl 148).1]? = some (.code (mN 148) (cod 148) (mxl 148) (rty 148)) := rfl
set_option maxRecDepth 100000 in
theorem mc_149 : lw_tbl[(mpl 149).1]? = some (.code (mN 149) (cod 149) (mxl 149) (rty 149)) := rfl
set_option maxRecDepth 100000 in
theorem mc_150 : lw_tbl[(mpl 150).1]? = some (.code (mN 150) (cod 150) (mxl 150) (rty 150)) := rfl
set_option maxRecDepth 100000 in
theorem mc_151 : lw_tbl[(mpl 151).1]? = some (.code (mN 151) (cod 151) (mxl 151) (rty 151)) := rfl
set_option maxRecDepth 100000 in
theorem mc_152 : lw_tbl[(mpl 152).1]? = some (.code (mN 152) (cod 152) (mxl 152) (rty 152)) := rfl
set_option maxRecDepth 100000 in
theorem mc_153 : lw_tbl[(mpl 153).1]? = some (.code (mN 153) (cod 153) (mxl 153) (rty 153)) := rfl
set_option maxRecDepth 100000 in
theorem mc_154 : lw_tbl[(mpl 154).1]? = some (.code (mN 154) (cod 154) (mxl 154) (rty 154)) := rfl
set_option maxRecDepth 100000 in
theorem mc_155 : lw_tbl[(mpl 155).1]? = some (.code (mN 155) (cod 155) (mxl 155) (rty 155)) := rfl
set_option maxRecDepth 100000 in
theorem mc_156 : lw_tbl[(mpl 156).1]? = some (.code (mN 156) (cod 156) (mxl 156) (rty 156)) := rfl
set_option maxRecDepth 100000 in
theorem mc_157 : lw_tbl[(mpl 157).1]? = some (.code (mN 157) (cod 157) (mxl 157) (rty 157)) := rfl
set_option maxRecDepth 100000 in
theorem mc_158 : lw_tbl[(mpl 158).1]? = some (.code (mN 158) (cod 158) (mxl 158) (rty 158)) := rfl
set_option maxRecDepth 100000 in
theorem mc_159 : lw_tbl[(mpl 159).1]? = some (.code (mN 159) (cod 159) (mxl 159) (rty 159)) := rfl
set_option maxRecDepth 100000 in
theorem mc_160 : lw_tbl[(mpl 160).1]? = some (.code (mN 160) (cod 160) (mxl 160) (rty 160)) := rfl
set_option maxRecDepth 100000 in
theorem mc_161 : lw_tbl[(mpl 161).1]? = some (.code (mN 161) (cod 161) (mxl 161) (rty 161)) := rfl
set_option maxRecDepth 100000 in
theorem mc_162 : lw_tbl[(mpl 162).1]? = some (.code (mN 162) (cod 162) (mxl 162) (rty 162)) := rfl
set_option maxRecDepth 100000 in
theorem mc_163 : lw_tbl[(mpl 163).1]? = some (.code (mN 163) (cod 163) (mxl 163) (rty 163)) := rfl
set_option maxRecDepth 100000 in
theorem mc_164 : lw_tbl[(mpl 164).1]? = some (.code (mN 164) (cod 164) (mxl 164) (rty 164)) := rfl
set_option maxRecDepth 100000 in
theorem mc_165 : lw_tbl[(mpl 165).1]? = some (.code (mN 165) (cod 165) (mxl 165) (rty 165)) := rfl
set_option maxRecDepth 100000 in
theorem mc_166 : lw_tbl[(mpl 166).1]? = some (.code (mN 166) (cod 166) (mxl 166) (rty 166)) := rfl
set_option maxRecDepth 100000 in
theorem mc_167 : lw_tbl[(mpl 167).1]? = some (.code (mN 167) (cod 167) (mxl 167) (rty 167)) := rfl
set_option maxRecDepth 100000 in
theorem mc_168 : lw_tbl[(mpl 168).1]? = some (.code (mN 168) (cod 168) (mxl 168) (rty 168)) := rfl
set_option maxRecDepth 100000 in
theorem mc_169 : lw_tbl[(mpl 169).1]? = some (.code (mN 169) (cod 169) (mxl 169) (rty 169)) := rfl
set_option maxRecDepth 100000 in
theorem mc_170 : lw_tbl[(mpl 170).1]? = some (.code (mN 170) (cod 170) (mxl 170) (rty 170)) := rfl
set_option maxRecDepth 100000 in
theorem mc_171 : lw_tbl[(mpl 171).1]? = some (.code (mN 171) (cod 171) (mxl 171) (rty 171)) := rfl
set_option maxRecDepth 100000 in
theorem mc_172 : lw_tbl[(mpl 172).1]? = some (.code (mN 172) (cod 172) (mxl 172) (rty 172)) := rfl
set_option maxRecDepth 100000 in
theorem mc_173 : lw_tbl[(mpl 173).1]? = some (.code (mN 173) (cod 173) (mxl 173) (rty 173)) := rfl
set_option maxRecDepth 100000 in
theorem mc_174 : lw_tbl[(mpl 174).1]? = some (.code (mN 174) (cod 174) (mxl 174) (rty 174)) := rfl
set_option maxRecDepth 100000 in
theorem mc_175 : lw_tbl[(mpl 175).1]? = some (.code (mN 175) (cod 175) (mxl 175) (rty 175)) := rfl
set_option maxRecDepth 100000 in
theorem mc_176 : lw_tbl[(mpl 176).1]? = some (.code (mN 176) (cod 176) (mxl 176) (rty 176)) := rfl
set_option maxRecDepth 100000 in
theorem mc_177 : lw_tbl[(mpl 177).1]? = some (.code (mN 177) (cod 177) (mxl 177) (rty 177)) := rfl
set_option maxRecDepth 100000 in
theorem mc_178 : lw_tbl[(mpl 178).1]? = some (.code (mN 178) (cod 178) (mxl 178) (rty 178)) := rfl
set_option maxRecDepth 100000 in
theorem mc_179 : lw_tbl[(mpl 179).1]? = some (.code (mN 179) (cod 179) (mxl 179) (rty 179)) := rfl
set_option maxRecDepth 100000 in
theorem mc_180 : lw_tbl[(mpl 180).1]? = some (.code (mN 180) (cod 180) (mxl 180) (rty 180)) := rfl
set_option maxRecDepth 100000 in
theorem mc_181 : lw_tbl[(mpl 181).1]? = some (.code (mN 181) (cod 181) (mxl 181) (rty 181)) := rfl
set_option maxRecDepth 100000 in
theorem mc_182 : lw_tbl[(mpl 182).1]? = some (.code (mN 182) (cod 182) (mxl 182) (rty 182)) := rfl
set_option maxRecDepth 100000 in
theorem mc_183 : lw_tbl[(mpl 183).1]? = some (.code (mN 183) (cod 183) (mxl 183) (rty 183)) := rfl
set_option maxRecDepth 100000 in
theorem mc_184 : lw_tbl[(mpl 184).1]? = some (.code (mN 184) (cod 184) (mxl 184) (rty 184)) := rfl
set_option maxRecDepth 100000 in
theorem mc_185 : lw_tbl[(mpl 185).1]? = some (.code (mN 185) (cod 185) (mxl 185) (rty 185)) := rfl
set_option maxRecDepth 100000 in
theorem mc_186 : lw_tbl[(mpl 186).1]? = some (.code (mN 186) (cod 186) (mxl 186) (rty 186)) := rfl
set_option maxRecDepth 100000 in
theorem mc_187 : lw_tbl[(mpl 187).1]? = some (.code (mN 187) (cod 187) (mxl 187) (rty 187)) := rfl
set_option maxRecDepth 100000 in
theorem mc_188 : lw_tbl[(mpl 188).1]? = some (.code (mN 188) (cod 188) (mxl 188) (rty 188)) := rfl
set_option maxRecDepth 100000 in
theorem mc_189 : lw_tbl[(mpl 189).1]? = some (.code (mN 189) (cod 189) (mxl 189) (rty 189)) := rfl
set_option maxRecDepth 100000 in
theorem mc_190 : lw_tbl[(mpl 190).1]? = some (.code (mN 190) (cod 190) (mxl 190) (rty 190)) := rfl
set_option maxRecDepth 100000 in
theorem mc_191 : lw_tbl[(mpl 191).1]? = some (.code (mN 191) (cod 191) (mxl 191) (rty 191)) := rfl
set_option maxRecDepth 100000 in
theorem mc_192 : lw_tbl[(mpl 192).1]? = some (.code (mN 192) (cod 192) (mxl 192) (rty 192)) := rfl
set_option maxRecDepth 100000 in
theorem mc_193 : lw_tbl[(mpl 193).1]? = some (.code (mN 193) (cod 193) (mxl 193) (rty 193)) := rfl
set_option maxRecDepth 100000 in
theorem mc_194 : lw_tbl[(mpl 194).1]? = some (.code (mN 194) (cod 194) (mxl 194) (rty 194)) := rfl
set_option maxRecDepth 100000 in
theorem mc_195 : lw_tbl[(mpl 195).1]? = some (.code (mN 195) (cod 195) (mxl 195) (rty 195)) := rfl
set_option maxRecDepth 100000 in
theorem mc_196 : lw_tbl[(mpl 196).1]? = some (.code (mN 196) (cod 196) (mxl 196) (rty 196)) := rfl
set_option maxRecDepth 100000 in
theorem mc_197 : lw_tbl[(mpl 197).1]? = some (.code (mN 197) (cod 197) (mxl 197) (rty 197)) := rfl
set_option maxRecDepth 100000 in
theorem mc_198 : lw_tbl[(mpl 198).1]? = some (.code (mN 198) (cod 198) (mxl 198) (rty 198)) := rfl
set_option maxRecDepth 100000 in
theorem mc_199 : lw_tbl[(mpl 199).1]? = some (.code (mN 199) (cod 199) (mxl 199) (rty 199)) := rfl
set_option maxRecDepth 100000 in
theorem mc_200 : lw_tbl[(mpl 200).1]? = some (.code (mN 200) (cod 200) (mxl 200) (rty 200)) := rfl
set_option maxRecDepth 100000 in
theorem mc_201 : lw_tbl[(mpl 201).1]? = some (.code (mN 201) (cod 201) (mxl 201) (rty 201)) := rfl
set_option maxRecDepth 100000 in
theorem mc_202 : lw_tbl[(mpl 202).1]? = some (.code (mN 202) (cod 202) (mxl 202) (rty 202)) := rfl
set_option maxRecDepth 100000 in
theorem mc_203 : lw_tbl[(mpl 203).1]? = some (.code (mN 203) (cod 203) (mxl 203) (rty 203)) := rfl
set_option maxRecDepth 100000 in
theorem mc_204 : lw_tbl[(mpl 204).1]? = some (.code (mN 204) (cod 204) (mxl 204) (rty 204)) := rfl
set_option maxRecDepth 100000 in
theorem mc_205 : lw_tbl[(mpl 205).1]? = some (.code (mN 205) (cod 205) (mxl 205) (rty 205)) := rfl
set_option maxRecDepth 100000 in
theorem mc_206 : lw_tbl[(mpl 206).1]? = some (.code (mN 206) (cod 206) (mxl 206) (rty 206)) := rfl
set_option maxRecDepth 100000 in
theorem mc_207 : lw_tbl[(mpl 207).1]? = some (.code (mN 207) (cod 207) (mxl 207) (rty 207)) := rfl
set_option maxRecDepth 100000 in
theorem mc_208 : lw_tbl[(mpl 208).1]? = some (.code (mN 208) (cod 208) (mxl 208) (rty 208)) := rfl
set_option maxRecDepth 100000 in
theorem mc_209 : lw_tbl[(mpl 209).1]? = some (.code (mN 209) (cod 209) (mxl 209) (rty 209)) := rfl
set_option maxRecDepth 100000 in
theorem mc_210 : lw_tbl[(mpl 210).1]? = some (.code (mN 210) (cod 210) (mxl 210) (rty 210)) := rfl
set_option maxRecDepth 100000 in
theorem mc_211 : lw_tbl[(mpl 211).1]? = some (.code (mN 211) (cod 211) (mxl 211) (rty 211)) := rfl
set_option maxRecDepth 100000 in
theorem mc_212 : lw_tbl[(mpl 212).1]? = some (.code (mN 212) (cod 212) (mxl 212) (rty 212)) := rfl
set_option maxRecDepth 100000 in
theorem mc_213 : lw_tbl[(mpl 213).1]? = some (.code (mN 213) (cod 213) (mxl 213) (rty 213)) := rfl
set_option maxRecDepth 100000 in
theorem mc_214 : lw_tbl[(mpl 214).1]? = some (.code (mN 214) (cod 214) (mxl 214) (rty 214)) := rfl
set_option maxRecDepth 100000 in
theorem mc_215 : lw_tbl[(mpl 215).1]? = some (.code (mN 215) (cod 215) (mxl 215) (rty 215)) := rfl
set_option maxRecDepth 100000 in
theorem mc_216 : lw_tbl[(mpl 216).1]? = some (.code (mN 216) (cod 216) (mxl 216) (rty 216)) := rfl
set_option maxRecDepth 100000 in
theorem mc_217 : lw_tbl[(mpl 217).1]? = some (.code (mN 217) (cod 217) (mxl 217) (rty 217)) := rfl
set_option maxRecDepth 100000 in
theorem mc_218 : lw_tbl[(mpl 218).1]? = some (.code (mN 218) (cod 218) (mxl 218) (rty 218)) := rfl
set_option maxRecDepth 100000 in
theorem mc_219 : lw_tbl[(mpl 219).1]? = some (.code (mN 219) (cod 219) (mxl 219) (rty 219)) := rfl
set_option maxRecDepth 100000 in
theorem mc_220 : lw_tbl[(mpl 220).1]? = some (.code (mN 220) (cod 220) (mxl 220) (rty 220)) := rfl
set_option maxRecDepth 100000 in
theorem mc_221 : lw_tbl[(mpl 221).1]? = some (.code (mN 221) (cod 221) (mxl 221) (rty 221)) := rfl
set_option maxRecDepth 100000 in
theorem mc_222 : lw_tbl[(mpl 222).1]? = some (.code (mN 222) (cod 222) (mxl 222) (rty 222)) := rfl
set_option maxRecDepth 100000 in
theorem mc_223 : lw_tbl[(mpl 223).1]? = some (.code (mN 223) (cod 223) (mxl 223) (rty 223)) := rfl
set_option maxRecDepth 100000 in
theorem mc_224 : lw_tbl[(mpl 224).1]? = some (.code (mN 224) (cod 224) (mxl 224) (rty 224)) := rfl
set_option maxRecDepth 100000 in
theorem mc_225 : lw_tbl[(mpl 225).1]? = some (.code (mN 225) (cod 225) (mxl 225) (rty 225)) := rfl
set_option maxRecDepth 100000 in
theorem mc_226 : lw_tbl[(mpl 226).1]? = some (.code (mN 226) (cod 226) (mxl 226) (rty 226)) := rfl
set_option maxRecDepth 100000 in
theorem mc_227 : lw_tbl[(mpl 227).1]? = some (.code (mN 227) (cod 227) (mxl 227) (rty 227)) := rfl
set_option maxRecDepth 100000 in
theorem mc_228 : lw_tbl[(mpl 228).1]? = some (.code (mN 228) (cod 228) (mxl 228) (rty 228)) := rfl
set_option maxRecDepth 100000 in
theorem mc_229 : lw_tbl[(mpl 229).1]? = some (.code (mN 229) (cod 229) (mxl 229) (rty 229)) := rfl
set_option maxRecDepth 100000 in
theorem mc_230 : lw_tbl[(mpl 230).1]? = some (.code (mN 230) (cod 230) (mxl 230) (rty 230)) := rfl
set_option maxRecDepth 100000 in
theorem mc_231 : lw_tbl[(mpl 231).1]? = some (.code (mN 231) (cod 231) (mxl 231) (rty 231)) := rfl
set_option maxRecDepth 100000 in
theorem mc_232 : lw_tbl[(mpl 232).1]? = some (.code (mN 232) (cod 232) (mxl 232) (rty 232)) := rfl
set_option maxRecDepth 100000 in
theorem mc_233 : lw_tbl[(mpl 233).1]? = some (.code (mN 233) (cod 233) (mxl 233) (rty 233)) := rfl
set_option maxRecDepth 100000 in
theorem mc_234 : lw_tbl[(mpl 234).1]? = some (.code (mN 234) (cod 234) (mxl 234) (rty 234)) := rfl
set_option maxRecDepth 100000 in
theorem mc_235 : lw_tbl[(mpl 235).1]? = some (.code (mN 235) (cod 235) (mxl 235) (rty 235)) := rfl
set_option maxRecDepth 100000 in
theorem mc_236 : lw_tbl[(mpl 236).1]? = some (.code (mN 236) (cod 236) (mxl 236) (rty 236)) := rfl
set_option maxRecDepth 100000 in
theorem mc_237 : lw_tbl[(mpl 237).1]? = some (.code (mN 237) (cod 237) (mxl 237) (rty 237)) := rfl
set_option maxRecDepth 100000 in
theorem mc_238 : lw_tbl[(mpl 238).1]? = some (.code (mN 238) (cod 238) (mxl 238) (rty 238)) := rfl
set_option maxRecDepth 100000 in
theorem mc_239 : lw_tbl[(mpl 239).1]? = some (.code (mN 239) (cod 239) (mxl 239) (rty 239)) := rfl
set_option maxRecDepth 100000 in
theorem mc_240 : lw_tbl[(mpl 240).1]? = some (.code (mN 240) (cod 240) (mxl 240) (rty 240)) := rfl
set_option maxRecDepth 100000 in
theorem mc_241 : lw_tbl[(mpl 241).1]? = some (.code (mN 241) (cod 241) (mxl 241) (rty 241)) := rfl
set_option maxRecDepth 100000 in
theorem mc_242 : lw_tbl[(mpl 242).1]? = some (.code (mN 242) (cod 242) (mxl 242) (rty 242)) := rfl
set_option maxRecDepth 100000 in
theorem mc_243 : lw_tbl[(mpl 243).1]? = some (.code (mN 243) (cod 243) (mxl 243) (rty 243)) := rfl
set_option maxRecDepth 100000 in
theorem mc_244 : lw_tbl[(mpl 244).1]? = some (.code (mN 244) (cod 244) (mxl 244) (rty 244)) := rfl
set_option maxRecDepth 100000 in
theorem mc_245 : lw_tbl[(mpl 245).1]? = some (.code (mN 245) (cod 245) (mxl 245) (rty 245)) := rfl
set_option maxRecDepth 100000 in
theorem mc_246 : lw_tbl[(mpl 246).1]? = some (.code (mN 246) (cod 246) (mxl 246) (rty 246)) := rfl
set_option maxRecDepth 100000 in
theorem mc_247 : lw_tbl[(mpl 247).1]? = some (.code (mN 247) (cod 247) (mxl 247) (rty 247)) := rfl
set_option maxRecDepth 100000 in
theorem mc_248 : lw_tbl[(mpl 248).1]? = some (.code (mN 248) (cod 248) (mxl 248) (rty 248)) := rfl
set_option maxRecDepth 100000 in
theorem mc_249 : lw_tbl[(mpl 249).1]? = some (.code (mN 249) (cod 249) (mxl 249) (rty 249)) := rfl
set_option maxRecDepth 100000 in
theorem mc_250 : lw_tbl[(mpl 250).1]? = some (.code (mN 250) (cod 250) (mxl 250) (rty 250)) := rfl
set_option maxRecDepth 100000 in
theorem mc_251 : lw_tbl[(mpl 251).1]? = some (.code (mN 251) (cod 251) (mxl 251) (rty 251)) := rfl
set_option maxRecDepth 100000 in
theorem mc_252 : lw_tbl[(mpl 252).1]? = some (.code (mN 252) (cod 252) (mxl 252) (rty 252)) := rfl
set_option maxRecDepth 100000 in
theorem mc_253 : lw_tbl[(mpl 253).1]? = some (.code (mN 253) (cod 253) (mxl 253) (rty 253)) := rfl
set_option maxRecDepth 100000 in
theorem mc_254 : lw_tbl[(mpl 254).1]? = some (.code (mN 254) (cod 254) (mxl 254) (rty 254)) := rfl
set_option maxRecDepth 100000 in
theorem mc_255 : lw_tbl[(mpl 255).1]? = some (.code (mN 255) (cod 255) (mxl 255) (rty 255)) := rfl
set_option maxRecDepth 100000 in
theorem mc_256 : lw_tbl[(mpl 256).1]? = some (.code (mN 256) (cod 256) (mxl 256) (rty 256)) := rfl
set_option maxRecDepth 100000 in
theorem mc_257 : lw_tbl[(mpl 257).1]? = some (.code (mN 257) (cod 257) (mxl 257) (rty 257)) := rfl
set_option maxRecDepth 100000 in
theorem mc_258 : lw_tbl[(mpl 258).1]? = some (.code (mN 258) (cod 258) (mxl 258) (rty 258)) := rfl
set_option maxRecDepth 100000 in
theorem mc_259 : lw_tbl[(mpl 259).1]? = some (.code (mN 259) (cod 259) (mxl 259) (rty 259)) := rfl
set_option maxRecDepth 100000 in
theorem mc_260 : lw_tbl[(mpl 260).1]? = some (.code (mN 260) (cod 260) (mxl 260) (rty 260)) := rfl
set_option maxRecDepth 100000 in
theorem mc_261 : lw_tbl[(mpl 261).1]? = some (.code (mN 261) (cod 261) (mxl 261) (rty 261)) := rfl
set_option maxRecDepth 100000 in
theorem mc_262 : lw_tbl[(mpl 262).1]? = some (.code (mN 262) (cod 262) (mxl 262) (rty 262)) := rfl
set_option maxRecDepth 100000 in
theorem mc_263 : lw_tbl[(mpl 263).1]? = some (.code (mN 263) (cod 263) (mxl 263) (rty 263)) := rfl
set_option maxRecDepth 100000 in
theorem mc_264 : lw_tbl[(mpl 264).1]? = some (.code (mN 264) (cod 264) (mxl 264) (rty 264)) := rfl
set_option maxRecDepth 100000 in
theorem mc_265 : lw_tbl[(mpl 265).1]? = some (.code (mN 265) (cod 265) (mxl 265) (rty 265)) := rfl
set_option maxRecDepth 100000 in
theorem mc_266 : lw_tbl[(mpl 266).1]? = some (.code (mN 266) (cod 266) (mxl 266) (rty 266)) := rfl
set_option maxRecDepth 100000 in
theorem mc_267 : lw_tbl[(mpl 267).1]? = some (.code (mN 267) (cod 267) (mxl 267) (rty 267)) := rfl
set_option maxRecDepth 100000 in
theorem mc_268 : lw_tbl[(mpl 268).1]? = some (.code (mN 268) (cod 268) (mxl 268) (rty 268)) := rfl
set_option maxRecDepth 100000 in
theorem mc_269 : lw_tbl[(mpl 269).1]? = some (.code (mN 269) (cod 269) (mxl 269) (rty 269)) := rfl
set_option maxRecDepth 100000 in
theorem mc_270 : lw_tbl[(mpl 270).1]? = some (.code (mN 270) (cod 270) (mxl 270) (rty 270)) := rfl
def mCode (m : Nat) : Prop := lw_tbl[(mpl m).1]? = some (.code (mN m) (cod m) (mxl m) (rty m))
theorem mcs_20 : ∀ m, m < 20 → mCode m := (lt_s (lt_s (lt_s (lt_s (lt_s (lt_s (lt_s (lt_s (lt_s (lt_s (lt_s (lt_s (lt_s (lt_s (lt_s (lt_s (lt_s (lt_s (lt_s (lt_s lt_0 mc_0) mc_1) mc_2) mc_3) mc_4) mc_5) mc_6) mc_7) mc_8) mc_9) mc_10) mc_11) mc_12) mc_13) mc_14) mc_15) mc_16) mc_17) mc_18) mc_19)
theorem mcs_40 : ∀ m, m < 40 → mCode m := (lt_s (lt_s (lt_s (lt_s (lt_s (lt_s (lt_s (lt_s (lt_s (lt_s (lt_s (lt_s (lt_s (lt_s (lt_s (lt_s (lt_s (lt_s (lt_s (lt_s mcs_20 mc_20) mc_21) mc_22) mc_23) mc_24) mc_25) mc_26) mc_27) mc_28) mc_29) mc_30) mc_31) mc_32) mc_33) mc_34) mc_35) mc_36) mc_37) mc_38) mc_39)
theorem mcs_60 : ∀ m, m < 60 → mCode m := (lt_s (lt_s (lt_s (lt_s (lt_s (lt_s (lt_s (lt_s (lt_s (lt_s (lt_s (lt_s (lt_s (lt_s (lt_s (lt_s (lt_s (lt_s (lt_s (lt_s mcs_40 mc_40) mc_41) mc_42) mc_43) mc_44) mc_45) mc_46) mc_47) mc_48) mc_49) mc_50) mc_51) mc_52) mc_53) mc_54) mc_55) mc_56) mc_57) mc_58) mc_59)
theorem mcs_80 : ∀ m, m < 80 → mCode m := (lt_s (lt_s (lt_s (lt_s (lt_s (lt_s (lt_s (lt_s (lt_s (lt_s (lt_s (lt_s (lt_s (lt_s (lt_s (lt_s (lt_s (lt_s (lt_s (lt_s mcs_60 mc_60) mc_61) mc_62) mc_63) mc_64) mc_65) mc_66) mc_67) mc_68) mc_69) mc_70) mc_71) mc_72) mc_73) mc_74) mc_75) mc_76) mc_77) mc_78) mc_79)
theorem mcs_100 : ∀ m, m < 100 → mCode m := (lt_s (lt_s (lt_s (lt_s (lt_s (lt_s (lt_s (lt_s (lt_s (lt_s (lt_s (lt_s (lt_s (lt_s (lt_s (lt_s (lt_s (lt_s (lt_s (lt_s mcs_80 mc_80) mc_81) mc_82) mc_83) mc_84) mc_85) mc_86) mc_87) mc_88) mc_89) mc_90) mc_91) mc_92) mc_93) mc_94) mc_95) mc_96) mc_97) mc_98) mc_99)
theorem mcs_120 : ∀ m, m < 120 → mCode m := (lt_s (lt_s (lt_s (lt_s (lt_s (lt_s (lt_s (lt_s (lt_s (lt_s (lt_s (lt_s (lt_s (lt_s (lt_s (lt_s (lt_s (lt_s (lt_s (lt_s mcs_100 mc_100) mc_101) mc_102) mc_103) mc_104) mc_105) mc_106) mc_107) mc_108) mc_109) mc_110) mc_111) mc_112) mc_113) mc_114) mc_115) mc_116) mc_117) mc_118) mc_119)
theorem mcs_140 : ∀ m, m < 140 → mCode m := (lt_s (lt_s (lt_s (lt_s (lt_s (lt_s (lt_s (lt_s (lt_s (lt_s (lt_s (lt_s (lt_s (lt_s (lt_s (lt_s (lt_s (lt_s (lt_s (lt_s mcs_120 mc_120) mc_121) mc_122) mc_123) mc_124) mc_125) mc_126) mc_127) mc_128) mc_129) mc_130) mc_131) mc_132) mc_133) mc_134) mc_135) mc_136) mc_137) mc_138) mc_139)
theorem mcs_160 : ∀ m, m < 160 → mCode m := (lt_s (lt_s (lt_s (lt_s (lt_s (lt_s (lt_s (lt_s (lt_s (lt_s (lt_s (lt_s (lt_s (lt_s (lt_s (lt_s (lt_s (lt_s (lt_s (lt_s mcs_140 mc_140) mc_141) mc_142) mc_143) mc_144) mc_145) mc_146) mc_147) mc_148) mc_149) mc_150) mc_151) mc_152) mc_153) mc_154) mc_155) mc_156) mc_157) mc_158) mc_159)
theorem mcs_180 : ∀ m, m < 180 → mCode m := (lt_s (lt_s (lt_s (lt_s (lt_s (lt_s (lt_s (lt_s (lt_s (lt_s (lt_s (lt_s (lt_s (lt_s (lt_s (lt_s (lt_s (lt_s (lt_s (lt_s mcs_160 mc_160) mc_161) mc_162) mc_163) mc_164) mc_165) mc_166) mc_167) mc_168) mc_169) mc_170) mc_171) mc_172) mc_173) mc_174) mc_175) mc_176) mc_177) mc_178) mc_179)
theorem mcs_200 : ∀ m, m < 200 → mCode m := (lt_s (lt_s (lt_s (lt_s (lt_s (lt_s (lt_s (lt_s (lt_s (lt_s (lt_s (lt_s (lt_s (lt_s (lt_s (lt_s (lt_s (lt_s (lt_s (lt_s mcs_180 mc_180) mc_181) mc_182) mc_183) mc_184) mc_185) mc_186) mc_187) mc_188) mc_189) mc_190) mc_191) mc_192) mc_193) mc_194) mc_195) mc_196) mc_197) mc_198) mc_199)
theorem mcs_220 : ∀ m, m < 220 → mCode m := (lt_s (lt_s (lt_s (lt_s (lt_s (lt_s (lt_s (lt_s (lt_s (lt_s (lt_s (lt_s (lt_s (lt_s (lt_s (lt_s (lt_s (lt_s (lt_s (lt_s mcs_200 mc_200) mc_201) mc_202) mc_203) mc_204) mc_205) mc_206) mc_207) mc_208) mc_209) mc_210) mc_211) mc_212) mc_213) mc_214) mc_215) mc_216) mc_217) mc_218) mc_219)
theorem mcs_240 : ∀ m, m < 240 → mCode m := (lt_s (lt_s (lt_s (lt_s (lt_s (lt_s (lt_s (lt_s (lt_s (lt_s (lt_s (lt_s (lt_s (lt_s (lt_s (lt_s (lt_s (lt_s (lt_s (lt_s mcs_220 mc_220) mc_221) mc_222) mc_223) mc_224) mc_225) mc_226) mc_227) mc_228) mc_229) mc_230) mc_231) mc_232) mc_233) mc_234) mc_235) mc_236) mc_237) mc_238) mc_239)
theorem mcs_260 : ∀ m, m < 260 → mCode m := (lt_s (lt_s (lt_s (lt_s (lt_s (lt_s (lt_s (lt_s (lt_s (lt_s (lt_s (lt_s (lt_s (lt_s (lt_s (lt_s (lt_s (lt_s (lt_s (lt_s mcs_240 mc_240) mc_241) mc_242) mc_243) mc_244) mc_245) mc_246) mc_247) mc_248) mc_249) mc_250) mc_251) mc_252) mc_253) mc_254) mc_255) mc_256) mc_257) mc_258) mc_259)
theorem mcs_271 : ∀ m, m < 271 → mCode m := (lt_s (lt_s (lt_s (lt_s (lt_s (lt_s (lt_s (lt_s (lt_s (lt_s (lt_s mcs_260 mc_260) mc_261) mc_262) mc_263) mc_264) mc_265) mc_266) mc_267) mc_268) mc_269) mc_270)
theorem mCode_ok : ∀ m, m < 271 → mCode m := mcs_271
theorem mChk_ok : ∀ m, m < 271 → chkM m = true := by
  intro m hm
  rcases Nat.lt_or_ge m 50 with h0 | h0
  · exact List.all_eq_true.mp mchk_0 m (List.mem_map.mpr ⟨m - 0, List.mem_range.mpr (by omega), by omega⟩)
  rcases Nat.lt_or_ge m 100 with h50 | h50
  · exact List.all_eq_true.mp mchk_50 m (List.mem_map.mpr ⟨m - 50, List.mem_range.mpr (by omega), by omega⟩)
  rcases Nat.lt_or_ge m 150 with h100 | h100
  · exact List.all_eq_true.mp mchk_100 m (List.mem_map.mpr ⟨m - 100, List.mem_range.mpr (by omega), by omega⟩)
  rcases Nat.lt_or_ge m 200 with h150 | h150
  · exact List.all_eq_true.mp mchk_150 m (List.mem_map.mpr ⟨m - 150, List.mem_range.mpr (by omega), by omega⟩)
  rcases Nat.lt_or_ge m 250 with h200 | h200
  · exact List.all_eq_true.mp mchk_200 m (List.mem_map.mpr ⟨m - 200, List.mem_range.mpr (by omega), by omega⟩)
  rcases Nat.lt_or_ge m 271 with h250 | h250
  · exact List.all_eq_true.mp mchk_250 m (List.mem_map.mpr ⟨m - 250, List.mem_range.mpr (by omega), by omega⟩)
  · omega
