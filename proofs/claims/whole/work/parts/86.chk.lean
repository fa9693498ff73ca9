/-! the tables are right: decode, lengths, places that follow, words; by program -/
def pcL (l : List Ea) (i : Nat) : Nat := match nthO l i with
  | some e => e.2.2.1
  | none => 0
def swB (l : List Ea) (pc : Nat) : List Nat → List Int → Bool
  | [], _ => true
  | _ :: _, [] => false
  | u :: r, off :: offs => decide ((pc : Int) + off = (pcL l u : Int)) && swB l pc r offs
def tgB (l : List Ea) (pc : Nat) (off : Int) : List Nat → Bool
  | [] => true
  | t :: _ => decide ((pc : Int) + off = (pcL l t : Int))
def nxtB (l : List Ea) (i : Nat) (e : Ea) : Bool := match e.2.1 with
  | .goto off => tgB l e.2.2.1 off e.2.2.2.2.1
  | .tableswitch dflt _ _ offs => tgB l e.2.2.1 dflt e.2.2.2.2.1 && swB l e.2.2.1 e.2.2.2.2.1.tail offs.toList
  | .ifCond _ off => decide (pcL l (i + 1) = e.2.2.1 + 3) && tgB l e.2.2.1 off e.2.2.2.2.1
  | .if_icmp _ off => decide (pcL l (i + 1) = e.2.2.1 + 3) && tgB l e.2.2.1 off e.2.2.2.2.1
  | .ifnull off => decide (pcL l (i + 1) = e.2.2.1 + 3) && tgB l e.2.2.1 off e.2.2.2.2.1
  | op => decide (pcL l (i + 1) = e.2.2.1 + lenI op)
def lenB (ins : Instr) (len : Nat) : Bool := match ins with
  | .tableswitch _ _ _ _ => true
  | op => decide (len = lenI op)
/-- a method's kind (0 instance, 1 static, 2 constructor, 3 the law), and where its words stand: its code, its class initialised, instance or static, selects -/
def mPl : List (Nat × Nat × Nat × Nat × Nat) := [(2, 397, 122, 396, 9999), (0, 824, 122, 822, 823), (0, 917, 122, 915, 916), (0, 921, 122, 920, 24), (0, 964, 122, 962, 963), (2, 443, 124, 442, 9999), (0, 1208, 124, 1206, 1207), (0, 1213, 124, 1212, 39), (0, 1220, 124, 1218, 1219), (0, 1232, 124, 1230, 1231), (0, 1237, 124, 1236, 40), (0, 1241, 124, 1240, 41), (2, 384, 121, 383, 9999), (0, 842, 121, 840, 841), (0, 925, 121, 923, 924), (0, 847, 121, 846, 21), (0, 857, 121, 856, 22), (0, 866, 121, 865, 23), (1, 860, 121, 859, 9999), (1, 870, 121, 869, 9999), (1, 874, 121, 873, 9999), (2, 466, 125, 465, 9999), (0, 1253, 125, 1251, 1252), (0, 1259, 125, 1258, 42), (0, 1263, 125, 1262, 43), (0, 1269, 125, 1267, 1268), (0, 1273, 125, 1272, 44), (2, 261, 118, 260, 9999), (0, 1313, 118, 1311, 1312), (2, 344, 120, 343, 9999), (0, 559, 120, 557, 558), (0, 571, 120, 569, 570), (0, 718, 120, 717, 5), (0, 710, 120, 709, 4), (0, 722, 120, 721, 6), (0, 787, 120, 786, 19), (0, 759, 120, 758, 13), (0, 742, 120, 741, 10), (0, 730, 120, 729, 7), (0, 734, 120, 733, 8), (0, 738, 120, 737, 9), (0, 751, 120, 750, 11), (0, 755, 120, 754, 12), (0, 763, 120, 762, 14), (0, 767, 120, 766, 15), (0, 771, 120, 770, 16), (0, 775, 120, 774, 17), (0, 779, 120, 778, 18), (0, 579, 120, 578, 0), (0, 586, 120, 585, 1), (0, 634, 120, 633, 2), (0, 641, 120, 640, 3), (1, 582, 120, 581, 9999), (1, 630, 120, 629, 9999), (2, 244, 117, 243, 9999), (0, 1309, 117, 1307, 1308), (0, 888, 117, 886, 887), (0, 974, 117, 972, 973), (2, 407, 123, 406, 9999), (0, 1053, 123, 1052, 29), (0, 1033, 123, 1032, 27), (0, 1075, 123, 1073, 1074), (0, 1071, 123, 1069, 1070), (0, 1029, 123, 1027, 1028), (0, 1037, 123, 1035, 1036), (0, 1045, 123, 1043, 1044), (0, 1049, 123, 1048, 28), (0, 1062, 123, 1060, 1061), (0, 1093, 123, 1091, 1092), (0, 1102, 123, 1100, 1101), (0, 1106, 123, 1105, 30), (0, 1118, 123, 1117, 31), (0, 1114, 123, 1112, 1113), (0, 1130, 123, 1129, 33), (0, 1126, 123, 1125, 32), (0, 1139, 123, 1137, 1138), (0, 1143, 123, 1142, 34), (0, 1147, 123, 1146, 35), (0, 1155, 123, 1153, 1154), (0, 1159, 123, 1158, 36), (0, 1172, 123, 1170, 1171), (0, 1180, 123, 1178, 1179), (0, 1184, 123, 1183, 37), (0, 1192, 123, 1190, 1191), (0, 1196, 123, 1195, 38), (2, 310, 119, 309, 9999), (0, 575, 119, 573, 574), (0, 714, 119, 712, 713), (0, 747, 119, 745, 746), (0, 783, 119, 781, 782), (0, 726, 119, 724, 725), (1, 850, 119, 849, 9999), (1, 940, 119, 939, 9999), (1, 951, 119, 950, 9999), (1, 853, 119, 852, 9999), (2, 147, 116, 146, 9999), (0, 1021, 116, 1019, 1020), (0, 816, 116, 814, 815), (0, 808, 116, 806, 807), (0, 828, 116, 826, 827), (0, 832, 116, 830, 831), (0, 895, 116, 893, 894), (0, 905, 116, 903, 904), (0, 1005, 116, 1003, 1004), (0, 1009, 116, 1007, 1008), (0, 1013, 116, 1011, 1012), (0, 930, 116, 928, 929), (2, 139, 115, 138, 9999), (0, 537, 115, 535, 536), (0, 544, 115, 542, 543), (0, 551, 115, 549, 550), (0, 555, 115, 553, 554), (0, 563, 115, 561, 562), (0, 567, 115, 565, 566), (0, 800, 115, 798, 799), (0, 804, 115, 802, 803), (0, 812, 115, 810, 811), (0, 900, 115, 898, 899), (0, 909, 115, 907, 908), (0, 913, 115, 911, 912), (0, 936, 115, 934, 935), (0, 948, 115, 947, 26), (0, 944, 115, 943, 25), (0, 960, 115, 958, 959), (0, 970, 115, 968, 969), (0, 978, 115, 976, 977), (0, 983, 115, 981, 982), (0, 987, 115, 985, 986), (0, 992, 115, 990, 991), (0, 997, 115, 995, 996), (0, 1001, 115, 999, 1000), (0, 1017, 115, 1015, 1016), (0, 1025, 115, 1023, 1024), (0, 1041, 115, 1039, 1040), (0, 1058, 115, 1056, 1057), (0, 1067, 115, 1065, 1066), (0, 1079, 115, 1077, 1078), (0, 1084, 115, 1082, 1083), (0, 1089, 115, 1087, 1088), (0, 1098, 115, 1096, 1097), (0, 1110, 115, 1108, 1109), (0, 1135, 115, 1133, 1134), (0, 1151, 115, 1149, 1150), (0, 1164, 115, 1162, 1163), (0, 1168, 115, 1166, 1167), (0, 1176, 115, 1174, 1175), (0, 1188, 115, 1186, 1187), (0, 1200, 115, 1198, 1199), (0, 1204, 115, 1202, 1203), (0, 1224, 115, 1222, 1223), (0, 1228, 115, 1226, 1227), (0, 1245, 115, 1243, 1244), (0, 1249, 115, 1247, 1248), (0, 1277, 115, 1275, 1276), (0, 1281, 115, 1279, 1280), (0, 1285, 115, 1284, 45), (0, 1289, 115, 1287, 1288), (0, 1293, 115, 1292, 46), (0, 1297, 115, 1295, 1296), (0, 1301, 115, 1299, 1300), (0, 1305, 115, 1303, 1304), (0, 1318, 115, 1316, 1317), (0, 1322, 115, 1320, 1321), (0, 820, 115, 819, 20), (1, 540, 115, 539, 9999), (1, 1121, 115, 1120, 9999), (1, 547, 115, 546, 9999), (2, 1327, 126, 1326, 9999), (1, 1331, 126, 1330, 9999), (1, 1446, 126, 1445, 9999), (1, 1684, 126, 1683, 9999), (1, 1453, 126, 1452, 9999), (1, 1641, 126, 1640, 9999), (1, 1443, 126, 1442, 9999), (0, 1638, 126, 1637, 77), (0, 1450, 126, 1449, 47), (0, 1653, 126, 1652, 80), (0, 1440, 126, 1438, 1439), (0, 1457, 126, 1455, 1456), (0, 1461, 126, 1459, 1460), (0, 1469, 126, 1468, 48), (0, 1465, 126, 1463, 1464), (0, 1473, 126, 1471, 1472), (0, 1489, 126, 1488, 51), (1, 1496, 126, 1495, 9999), (1, 1492, 126, 1491, 9999), (1, 1500, 126, 1499, 9999), (0, 1485, 126, 1484, 50), (1, 1521, 126, 1520, 9999), (1, 1518, 126, 1517, 9999), (1, 1515, 126, 1514, 9999), (1, 1531, 126, 1530, 9999), (1, 1528, 126, 1527, 9999), (0, 1525, 126, 1524, 55), (0, 1586, 126, 1585, 68), (0, 1512, 126, 1511, 54), (0, 1602, 126, 1601, 72), (0, 1606, 126, 1605, 73), (1, 1574, 126, 1573, 9999), (0, 1582, 126, 1581, 67), (0, 1567, 126, 1566, 64), (0, 1563, 126, 1562, 63), (0, 1571, 126, 1570, 65), (0, 1614, 126, 1613, 75), (0, 1610, 126, 1609, 74), (0, 1598, 126, 1597, 71), (0, 1594, 126, 1593, 70), (0, 1578, 126, 1577, 66), (0, 1559, 126, 1558, 62), (0, 1590, 126, 1589, 69), (0, 1555, 126, 1554, 61), (0, 1551, 126, 1550, 60), (0, 1543, 126, 1542, 58), (0, 1547, 126, 1546, 59), (0, 1539, 126, 1538, 57), (0, 1535, 126, 1534, 56), (0, 1508, 126, 1507, 53), (0, 1504, 126, 1503, 52), (0, 1481, 126, 1480, 49), (0, 1477, 126, 1475, 1476), (0, 1618, 126, 1616, 1617), (0, 1622, 126, 1620, 1621), (1, 1673, 126, 1672, 9999), (1, 1670, 126, 1669, 9999), (1, 1678, 126, 1677, 9999), (0, 1665, 126, 1664, 83), (1, 1681, 126, 1680, 9999), (0, 1661, 126, 1660, 82), (0, 1657, 126, 1656, 81), (0, 1649, 126, 1648, 79), (0, 1645, 126, 1644, 78), (0, 1732, 126, 1731, 92), (0, 1696, 126, 1695, 86), (0, 1736, 126, 1735, 93), (0, 1740, 126, 1739, 94), (0, 1634, 126, 1633, 76), (0, 1692, 126, 1691, 85), (0, 1704, 126, 1703, 87), (0, 1712, 126, 1711, 88), (0, 1728, 126, 1727, 91), (0, 1724, 126, 1723, 90), (0, 1688, 126, 1687, 84), (0, 1626, 126, 1624, 1625), (0, 1630, 126, 1628, 1629), (0, 1700, 126, 1698, 1699), (0, 1708, 126, 1706, 1707), (0, 1720, 126, 1719, 89), (0, 1716, 126, 1714, 1715), (0, 1751, 126, 1750, 95), (0, 1747, 126, 1745, 1746), (0, 1764, 126, 1763, 96), (0, 1760, 126, 1758, 1759), (0, 1768, 126, 1766, 1767), (0, 1772, 126, 1770, 1771), (0, 1776, 126, 1774, 1775), (0, 1780, 126, 1778, 1779), (0, 1784, 126, 1782, 1783), (0, 1792, 126, 1791, 97), (0, 1788, 126, 1786, 1787), (0, 1796, 126, 1794, 1795), (0, 1804, 126, 1803, 98), (0, 1800, 126, 1798, 1799), (0, 1808, 126, 1806, 1807), (0, 1812, 126, 1810, 1811), (0, 1820, 126, 1819, 99), (0, 1816, 126, 1814, 1815), (0, 1824, 126, 1822, 1823), (0, 1832, 126, 1831, 100), (0, 1828, 126, 1826, 1827), (0, 1840, 126, 1839, 101), (0, 1836, 126, 1834, 1835), (0, 1844, 126, 1842, 1843), (0, 1848, 126, 1846, 1847), (0, 1852, 126, 1850, 1851), (0, 1860, 126, 1859, 102), (0, 1856, 126, 1854, 1855), (1, 1867, 126, 1866, 9999), (0, 1864, 126, 1862, 1863), (0, 1879, 126, 1878, 104), (0, 1875, 126, 1874, 103), (0, 1871, 126, 1869, 1870), (0, 1884, 126, 1882, 1883), (0, 1892, 126, 1891, 105), (0, 1888, 126, 1886, 1887), (0, 1896, 126, 1894, 1895), (0, 1900, 126, 1898, 1899), (0, 1908, 126, 1907, 106), (0, 1904, 126, 1902, 1903), (0, 1912, 126, 1910, 1911), (0, 1920, 126, 1919, 107), (0, 1926, 126, 1925, 108), (0, 1916, 126, 1914, 1915), (0, 1938, 126, 1937, 110), (0, 1934, 126, 1933, 109), (0, 1930, 126, 1928, 1929), (0, 1946, 126, 1945, 111), (0, 1942, 126, 1940, 1941), (0, 1950, 126, 1948, 1949), (0, 1962, 126, 1961, 113), (0, 1958, 126, 1957, 112), (0, 1954, 126, 1952, 1953), (0, 1966, 126, 1964, 1965), (0, 1970, 126, 1968, 1969), (0, 1974, 126, 1972, 1973), (0, 1978, 126, 1976, 1977), (0, 1982, 126, 1980, 1981), (1, 835, 133, 834, 9999), (0, 654, 127, 652, 653), (0, 591, 127, 589, 590), (0, 646, 127, 644, 645), (0, 650, 127, 648, 649), (0, 658, 127, 656, 657), (0, 595, 127, 593, 594), (1, 603, 127, 602, 9999), (1, 600, 128, 599, 9999), (1, 664, 128, 663, 9999), (1, 661, 128, 660, 9999), (1, 671, 128, 670, 9999), (1, 608, 129, 607, 9999), (3, 9999, 114, 9999, 9999)]
def mPx (mj : Nat) : Nat × Nat × Nat × Nat × Nat := match nthO mPl mj with
  | some q => q
  | none => (3, 9999, 9999, 9999, 9999)
noncomputable def mdB (q : Mt) (P : Nat × Nat × Nat × Nat × Nat) : Bool := decide (lw_tbl[P.2.1]? = some (.code q.1 q.2.1 q.2.2.1 q.2.2.2)) && decide (lw_tbl[P.2.2.1]? = some (.initialized q.1.cls)) && plainName q.1.cls && decide (q.1.cls ≠ "java/lang/invoke/MethodHandle" ∧ q.1.cls ≠ "java/lang/invoke/VarHandle") && decide (q.2.2.1 ≤ 40) && (match P.1 with
  | 0 => decide (lw_tbl[P.2.2.2.1]? = some (.instanceMethod q.1)) && decide (lw_tbl[P.2.2.2.2]? = some (.selects q.1.cls q.1 q.1))
  | 1 => decide (lw_tbl[P.2.2.2.1]? = some (.static q.1))
  | _ => decide (lw_tbl[P.2.2.2.1]? = some (.instanceMethod q.1)) && decide (q.1.name = "<init>" ∧ q.2.2.2 = none))
noncomputable def clB (own : String) (e : Ea) : Bool := match e.2.1, e.2.2.2.2.1 with
  | .invokevirtual idx, [mj, na, kind, pl] => (match nthO prL mj with
    | some q => decide (kind = 0 ∧ (mPx mj).1 = 0 ∧ 0 < na) && decide (lw_tbl[pl]? = some (.methodLink own idx q.1.1)) && decide ((parseMethodDescriptor q.1.1.desc).map (fun d => d.parameters.length) = some (na - 1)) && (match vwCl[mCi mj]? with
      | some v => decide (v.1 = q.1.1.cls)
      | none => decide (q.1.1.cls = "java/lang/String"))
    | none => false)
  | .invokestatic idx, [mj, na, kind, pl] => (match nthO prL mj with
    | some q => decide ((kind = 1 ∨ kind = 4) ∧ (mPx mj).1 = 1) && decide (lw_tbl[pl]? = some (if kind = 1 then .methodLink own idx q.1.1 else .methodLinkNest own idx q.1.1 "RumourRent")) && decide ((parseMethodDescriptor q.1.1.desc).map (fun d => d.parameters.length) = some na)
    | none => false)
  | .invokespecial idx, [mj, na, kind, pl] => (match nthO prL mj with
    | some q => decide ((kind = 2 ∨ kind = 5) ∧ (mPx mj).1 = 2 ∧ 0 < na) && decide (lw_tbl[pl]? = some (if kind = 2 then .methodLink own idx q.1.1 else .methodLinkNest own idx q.1.1 "RumourRent")) && decide ((parseMethodDescriptor q.1.1.desc).map (fun d => d.parameters.length) = some (na - 1))
    | none => false)
  | _, _ => false
noncomputable def ckE (q : Mt) (l : List Ea) (i : Nat) (e : Ea) : Bool := decide (decode q.2.1 e.2.2.1 = .ok (e.2.1, e.2.2.2.1)) && lenB e.2.1 e.2.2.2.1 && (match e.1 with
  | 0 => nxtB l i e && lkB q.1.cls q.1.name e
  | 1 => nxtB l i e && clB q.1.cls e
  | _ => true)
noncomputable def ckA (q : Mt) (l : List Ea) : Nat → List Ea → Bool
  | _, [] => true
  | i, e :: t => ckE q l i e && ckA q l (i + 1) t

theorem md_0 : mdB mt_0 (2, 397, 122, 396, 9999) = true := by decide +kernel
theorem md_1 : mdB mt_1 (0, 824, 122, 822, 823) = true := by decide +kernel
theorem md_2 : mdB mt_2 (0, 917, 122, 915, 916) = true := by decide +kernel
theorem md_3 : mdB mt_3 (0, 921, 122, 920, 24) = true := by decide +kernel
theorem md_4 : mdB mt_4 (0, 964, 122, 962, 963) = true := by decide +kernel
theorem md_5 : mdB mt_5 (2, 443, 124, 442, 9999) = true := by decide +kernel
theorem md_6 : mdB mt_6 (0, 1208, 124, 1206, 1207) = true := by decide +kernel
theorem md_7 : mdB mt_7 (0, 1213, 124, 1212, 39) = true := by decide +kernel
theorem md_8 : mdB mt_8 (0, 1220, 124, 1218, 1219) = true := by decide +kernel
theorem md_9 : mdB mt_9 (0, 1232, 124, 1230, 1231) = true := by decide +kernel
theorem md_10 : mdB mt_10 (0, 1237, 124, 1236, 40) = true := by decide +kernel
theorem md_11 : mdB mt_11 (0, 1241, 124, 1240, 41) = true := by decide +kernel
theorem md_12 : mdB mt_12 (2, 384, 121, 383, 9999) = true := by decide +kernel
theorem md_13 : mdB mt_13 (0, 842, 121, 840, 841) = true := by decide +kernel
theorem md_14 : mdB mt_14 (0, 925, 121, 923, 924) = true := by decide +kernel
theorem md_15 : mdB mt_15 (0, 847, 121, 846, 21) = true := by decide +kernel
theorem md_16 : mdB mt_16 (0, 857, 121, 856, 22) = true := by decide +kernel
theorem md_17 : mdB mt_17 (0, 866, 121, 865, 23) = true := by decide +kernel
theorem md_18 : mdB mt_18 (1, 860, 121, 859, 9999) = true := by decide +kernel
theorem md_19 : mdB mt_19 (1, 870, 121, 869, 9999) = true := by decide +kernel
theorem md_20 : mdB mt_20 (1, 874, 121, 873, 9999) = true := by decide +kernel
theorem md_21 : mdB mt_21 (2, 466, 125, 465, 9999) = true := by decide +kernel
theorem md_22 : mdB mt_22 (0, 1253, 125, 1251, 1252) = true := by decide +kernel
theorem md_23 : mdB mt_23 (0, 1259, 125, 1258, 42) = true := by decide +kernel
theorem md_24 : mdB mt_24 (0, 1263, 125, 1262, 43) = true := by decide +kernel
theorem md_25 : mdB mt_25 (0, 1269, 125, 1267, 1268) = true := by decide +kernel
theorem md_26 : mdB mt_26 (0, 1273, 125, 1272, 44) = true := by decide +kernel
theorem md_27 : mdB mt_27 (2, 261, 118, 260, 9999) = true := by decide +kernel
theorem md_28 : mdB mt_28 (0, 1313, 118, 1311, 1312) = true := by decide +kernel
theorem md_29 : mdB mt_29 (2, 344, 120, 343, 9999) = true := by decide +kernel
theorem md_30 : mdB mt_30 (0, 559, 120, 557, 558) = true := by decide +kernel
theorem md_31 : mdB mt_31 (0, 571, 120, 569, 570) = true := by decide +kernel
theorem md_32 : mdB mt_32 (0, 718, 120, 717, 5) = true := by decide +kernel
theorem md_33 : mdB mt_33 (0, 710, 120, 709, 4) = true := by decide +kernel
theorem md_34 : mdB mt_34 (0, 722, 120, 721, 6) = true := by decide +kernel
theorem md_35 : mdB mt_35 (0, 787, 120, 786, 19) = true := by decide +kernel
theorem md_36 : mdB mt_36 (0, 759, 120, 758, 13) = true := by decide +kernel
theorem md_37 : mdB mt_37 (0, 742, 120, 741, 10) = true := by decide +kernel
theorem md_38 : mdB mt_38 (0, 730, 120, 729, 7) = true := by decide +kernel
theorem md_39 : mdB mt_39 (0, 734, 120, 733, 8) = true := by decide +kernel
theorem md_40 : mdB mt_40 (0, 738, 120, 737, 9) = true := by decide +kernel
theorem md_41 : mdB mt_41 (0, 751, 120, 750, 11) = true := by decide +kernel
theorem md_42 : mdB mt_42 (0, 755, 120, 754, 12) = true := by decide +kernel
theorem md_43 : mdB mt_43 (0, 763, 120, 762, 14) = true := by decide +kernel
theorem md_44 : mdB mt_44 (0, 767, 120, 766, 15) = true := by decide +kernel
theorem md_45 : mdB mt_45 (0, 771, 120, 770, 16) = true := by decide +kernel
theorem md_46 : mdB mt_46 (0, 775, 120, 774, 17) = true := by decide +kernel
theorem md_47 : mdB mt_47 (0, 779, 120, 778, 18) = true := by decide +kernel
theorem md_48 : mdB mt_48 (0, 579, 120, 578, 0) = true := by decide +kernel
theorem md_49 : mdB mt_49 (0, 586, 120, 585, 1) = true := by decide +kernel
theorem md_50 : mdB mt_50 (0, 634, 120, 633, 2) = true := by decide +kernel
theorem md_51 : mdB mt_51 (0, 641, 120, 640, 3) = true := by decide +kernel
theorem md_52 : mdB mt_52 (1, 582, 120, 581, 9999) = true := by decide +kernel
theorem md_53 : mdB mt_53 (1, 630, 120, 629, 9999) = true := by decide +kernel
theorem md_54 : mdB mt_54 (2, 244, 117, 243, 9999) = true := by decide +kernel
theorem md_55 : mdB mt_55 (0, 1309, 117, 1307, 1308) = true := by decide +kernel
theorem md_56 : mdB mt_56 (0, 888, 117, 886, 887) = true := by decide +kernel
theorem md_57 : mdB mt_57 (0, 974, 117, 972, 973) = true := by decide +kernel
theorem md_58 : mdB mt_58 (2, 407, 123, 406, 9999) = true := by decide +kernel
theorem md_59 : mdB mt_59 (0, 1053, 123, 1052, 29) = true := by decide +kernel
theorem md_60 : mdB mt_60 (0, 1033, 123, 1032, 27) = true := by decide +kernel
theorem md_61 : mdB mt_61 (0, 1075, 123, 1073, 1074) = true := by decide +kernel
theorem md_62 : mdB mt_62 (0, 1071, 123, 1069, 1070) = true := by decide +kernel
theorem md_63 : mdB mt_63 (0, 1029, 123, 1027, 1028) = true := by decide +kernel
theorem md_64 : mdB mt_64 (0, 1037, 123, 1035, 1036) = true := by decide +kernel
theorem md_65 : mdB mt_65 (0, 1045, 123, 1043, 1044) = true := by decide +kernel
theorem md_66 : mdB mt_66 (0, 1049, 123, 1048, 28) = true := by decide +kernel
theorem md_67 : mdB mt_67 (0, 1062, 123, 1060, 1061) = true := by decide +kernel
theorem md_68 : mdB mt_68 (0, 1093, 123, 1091, 1092) = true := by decide +kernel
theorem md_69 : mdB mt_69 (0, 1102, 123, 1100, 1101) = true := by decide +kernel
theorem md_70 : mdB mt_70 (0, 1106, 123, 1105, 30) = true := by decide +kernel
theorem md_71 : mdB mt_71 (0, 1118, 123, 1117, 31) = true := by decide +kernel
theorem md_72 : mdB mt_72 (0, 1114, 123, 1112, 1113) = true := by decide +kernel
theorem md_73 : mdB mt_73 (0, 1130, 123, 1129, 33) = true := by decide +kernel
theorem md_74 : mdB mt_74 (0, 1126, 123, 1125, 32) = true := by decide +kernel
theorem md_75 : mdB mt_75 (0, 1139, 123, 1137, 1138) = true := by decide +kernel
theorem md_76 : mdB mt_76 (0, 1143, 123, 1142, 34) = true := by decide +kernel
theorem md_77 : mdB mt_77 (0, 1147, 123, 1146, 35) = true := by decide +kernel
theorem md_78 : mdB mt_78 (0, 1155, 123, 1153, 1154) = true := by decide +kernel
theorem md_79 : mdB mt_79 (0, 1159, 123, 1158, 36) = true := by decide +kernel
theorem md_80 : mdB mt_80 (0, 1172, 123, 1170, 1171) = true := by decide +kernel
theorem md_81 : mdB mt_81 (0, 1180, 123, 1178, 1179) = true := by decide +kernel
theorem md_82 : mdB mt_82 (0, 1184, 123, 1183, 37) = true := by decide +kernel
theorem md_83 : mdB mt_83 (0, 1192, 123, 1190, 1191) = true := by decide +kernel
theorem md_84 : mdB mt_84 (0, 1196, 123, 1195, 38) = true := by decide +kernel
theorem md_85 : mdB mt_85 (2, 310, 119, 309, 9999) = true := by decide +kernel
theorem md_86 : mdB mt_86 (0, 575, 119, 573, 574) = true := by decide +kernel
theorem md_87 : mdB mt_87 (0, 714, 119, 712, 713) = true := by decide +kernel
theorem md_88 : mdB mt_88 (0, 747, 119, 745, 746) = true := by decide +kernel
theorem md_89 : mdB mt_89 (0, 783, 119, 781, 782) = true := by decide +kernel
theorem md_90 : mdB mt_90 (0, 726, 119, 724, 725) = true := by decide +kernel
theorem md_91 : mdB mt_91 (1, 850, 119, 849, 9999) = true := by decide +kernel
theorem md_92 : mdB mt_92 (1, 940, 119, 939, 9999) = true := by decide +kernel
theorem md_93 : mdB mt_93 (1, 951, 119, 950, 9999) = true := by decide +kernel
theorem md_94 : mdB mt_94 (1, 853, 119, 852, 9999) = true := by decide +kernel
theorem md_95 : mdB mt_95 (2, 147, 116, 146, 9999) = true := by decide +kernel
theorem md_96 : mdB mt_96 (0, 1021, 116, 1019, 1020) = true := by decide +kernel
theorem md_97 : mdB mt_97 (0, 816, 116, 814, 815) = true := by decide +kernel
theorem md_98 : mdB mt_98 (0, 808, 116, 806, 807) = true := by decide +kernel
theorem md_99 : mdB mt_99 (0, 828, 116, 826, 827) = true := by decide +kernel
theorem md_100 : mdB mt_100 (0, 832, 116, 830, 831) = true := by decide +kernel
theorem md_101 : mdB mt_101 (0, 895, 116, 893, 894) = true := by decide +kernel
theorem md_102 : mdB mt_102 (0, 905, 116, 903, 904) = true := by decide +kernel
theorem md_103 : mdB mt_103 (0, 1005, 116, 1003, 1004) = true := by decide +kernel
theorem md_104 : mdB mt_104 (0, 1009, 116, 1007, 1008) = true := by decide +kernel
theorem md_105 : mdB mt_105 (0, 1013, 116, 1011, 1012) = true := by decide +kernel
theorem md_106 : mdB mt_106 (0, 930, 116, 928, 929) = true := by decide +kernel
theorem md_107 : mdB mt_107 (2, 139, 115, 138, 9999) = true := by decide +kernel
theorem md_108 : mdB mt_108 (0, 537, 115, 535, 536) = true := by decide +kernel
theorem md_109 : mdB mt_109 (0, 544, 115, 542, 543) = true := by decide +kernel
theorem md_110 : mdB mt_110 (0, 551, 115, 549, 550) = true := by decide +kernel
theorem md_111 : mdB mt_111 (0, 555, 115, 553, 554) = true := by decide +kernel
theorem md_112 : mdB mt_112 (0, 563, 115, 561, 562) = true := by decide +kernel
theorem md_113 : mdB mt_113 (0, 567, 115, 565, 566) = true := by decide +kernel
theorem md_114 : mdB mt_114 (0, 800, 115, 798, 799) = true := by decide +kernel
theorem md_115 : mdB mt_115 (0, 804, 115, 802, 803) = true := by decide +kernel
theorem md_116 : mdB mt_116 (0, 812, 115, 810, 811) = true := by decide +kernel
theorem md_117 : mdB mt_117 (0, 900, 115, 898, 899) = true := by decide +kernel
theorem md_118 : mdB mt_118 (0, 909, 115, 907, 908) = true := by decide +kernel
theorem md_119 : mdB mt_119 (0, 913, 115, 911, 912) = true := by decide +kernel
theorem md_120 : mdB mt_120 (0, 936, 115, 934, 935) = true := by decide +kernel
theorem md_121 : mdB mt_121 (0, 948, 115, 947, 26) = true := by decide +kernel
theorem md_122 : mdB mt_122 (0, 944, 115, 943, 25) = true := by decide +kernel
theorem md_123 : mdB mt_123 (0, 960, 115, 958, 959) = true := by decide +kernel
theorem md_124 : mdB mt_124 (0, 970, 115, 968, 969) = true := by decide +kernel
theorem md_125 : mdB mt_125 (0, 978, 115, 976, 977) = true := by decide +kernel
theorem md_126 : mdB mt_126 (0, 983, 115, 981, 982) = true := by decide +kernel
theorem md_127 : mdB mt_127 (0, 987, 115, 985, 986) = true := by decide +kernel
theorem md_128 : mdB mt_128 (0, 992, 115, 990, 991) = true := by decide +kernel
theorem md_129 : mdB mt_129 (0, 997, 115, 995, 996) = true := by decide +kernel
theorem md_130 : mdB mt_130 (0, 1001, 115, 999, 1000) = true := by decide +kernel
theorem md_131 : mdB mt_131 (0, 1017, 115, 1015, 1016) = true := by decide +kernel
theorem md_132 : mdB mt_132 (0, 1025, 115, 1023, 1024) = true := by decide +kernel
theorem md_133 : mdB mt_133 (0, 1041, 115, 1039, 1040) = true := by decide +kernel
theorem md_134 : mdB mt_134 (0, 1058, 115, 1056, 1057) = true := by decide +kernel
theorem md_135 : mdB mt_135 (0, 1067, 115, 1065, 1066) = true := by decide +kernel
theorem md_136 : mdB mt_136 (0, 1079, 115, 1077, 1078) = true := by decide +kernel
theorem md_137 : mdB mt_137 (0, 1084, 115, 1082, 1083) = true := by decide +kernel
theorem md_138 : mdB mt_138 (0, 1089, 115, 1087, 1088) = true := by decide +kernel
theorem md_139 : mdB mt_139 (0, 1098, 115, 1096, 1097) = true := by decide +kernel
theorem md_140 : mdB mt_140 (0, 1110, 115, 1108, 1109) = true := by decide +kernel
theorem md_141 : mdB mt_141 (0, 1135, 115, 1133, 1134) = true := by decide +kernel
theorem md_142 : mdB mt_142 (0, 1151, 115, 1149, 1150) = true := by decide +kernel
theorem md_143 : mdB mt_143 (0, 1164, 115, 1162, 1163) = true := by decide +kernel
theorem md_144 : mdB mt_144 (0, 1168, 115, 1166, 1167) = true := by decide +kernel
theorem md_145 : mdB mt_145 (0, 1176, 115, 1174, 1175) = true := by decide +kernel
theorem md_146 : mdB mt_146 (0, 1188, 115, 1186, 1187) = true := by decide +kernel
theorem md_147 : mdB mt_147 (0, 1200, 115, 1198, 1199) = true := by decide +kernel
theorem md_148 : mdB mt_148 (0, 1204, 115, 1202, 1203) = true := by decide +kernel
theorem md_149 : mdB mt_149 (0, 1224, 115, 1222, 1223) = true := by decide +kernel
theorem md_150 : mdB mt_150 (0, 1228, 115, 1226, 1227) = true := by decide +kernel
theorem md_151 : mdB mt_151 (0, 1245, 115, 1243, 1244) = true := by decide +kernel
theorem md_152 : mdB mt_152 (0, 1249, 115, 1247, 1248) = true := by decide +kernel
theorem md_153 : mdB mt_153 (0, 1277, 115, 1275, 1276) = true := by decide +kernel
theorem md_154 : mdB mt_154 (0, 1281, 115, 1279, 1280) = true := by decide +kernel
theorem md_155 : mdB mt_155 (0, 1285, 115, 1284, 45) = true := by decide +kernel
theorem md_156 : mdB mt_156 (0, 1289, 115, 1287, 1288) = true := by decide +kernel
theorem md_157 : mdB mt_157 (0, 1293, 115, 1292, 46) = true := by decide +kernel
theorem md_158 : mdB mt_158 (0, 1297, 115, 1295, 1296) = true := by decide +kernel
theorem md_159 : mdB mt_159 (0, 1301, 115, 1299, 1300) = true := by decide +kernel
theorem md_160 : mdB mt_160 (0, 1305, 115, 1303, 1304) = true := by decide +kernel
theorem md_161 : mdB mt_161 (0, 1318, 115, 1316, 1317) = true := by decide +kernel
theorem md_162 : mdB mt_162 (0, 1322, 115, 1320, 1321) = true := by decide +kernel
theorem md_163 : mdB mt_163 (0, 820, 115, 819, 20) = true := by decide +kernel
theorem md_164 : mdB mt_164 (1, 540, 115, 539, 9999) = true := by decide +kernel
theorem md_165 : mdB mt_165 (1, 1121, 115, 1120, 9999) = true := by decide +kernel
theorem md_166 : mdB mt_166 (1, 547, 115, 546, 9999) = true := by decide +kernel
theorem md_167 : mdB mt_167 (2, 1327, 126, 1326, 9999) = true := by decide +kernel
theorem md_168 : mdB mt_168 (1, 1331, 126, 1330, 9999) = true := by decide +kernel
theorem md_169 : mdB mt_169 (1, 1446, 126, 1445, 9999) = true := by decide +kernel
theorem md_170 : mdB mt_170 (1, 1684, 126, 1683, 9999) = true := by decide +kernel
theorem md_171 : mdB mt_171 (1, 1453, 126, 1452, 9999) = true := by decide +kernel
theorem md_172 : mdB mt_172 (1, 1641, 126, 1640, 9999) = true := by decide +kernel
theorem md_173 : mdB mt_173 (1, 1443, 126, 1442, 9999) = true := by decide +kernel
theorem md_174 : mdB mt_174 (0, 1638, 126, 1637, 77) = true := by decide +kernel
theorem md_175 : mdB mt_175 (0, 1450, 126, 1449, 47) = true := by decide +kernel
theorem md_176 : mdB mt_176 (0, 1653, 126, 1652, 80) = true := by decide +kernel
theorem md_177 : mdB mt_177 (0, 1440, 126, 1438, 1439) = true := by decide +kernel
theorem md_178 : mdB mt_178 (0, 1457, 126, 1455, 1456) = true := by decide +kernel
theorem md_179 : mdB mt_179 (0, 1461, 126, 1459, 1460) = true := by decide +kernel
theorem md_180 : mdB mt_180 (0, 1469, 126, 1468, 48) = true := by decide +kernel
theorem md_181 : mdB mt_181 (0, 1465, 126, 1463, 1464) = true := by decide +kernel
theorem md_182 : mdB mt_182 (0, 1473, 126, 1471, 1472) = true := by decide +kernel
theorem md_183 : mdB mt_183 (0, 1489, 126, 1488, 51) = true := by decide +kernel
theorem md_184 : mdB mt_184 (1, 1496, 126, 1495, 9999) = true := by decide +kernel
theorem md_185 : mdB mt_185 (1, 1492, 126, 1491, 9999) = true := by decide +kernel
theorem md_186 : mdB mt_186 (1, 1500, 126, 1499, 9999) = true := by decide +kernel
theorem md_187 : mdB mt_187 (0, 1485, 126, 1484, 50) = true := by decide +kernel
theorem md_188 : mdB mt_188 (1, 1521, 126, 1520, 9999) = true := by decide +kernel
theorem md_189 : mdB mt_189 (1, 1518, 126, 1517, 9999) = true := by decide +kernel
theorem md_190 : mdB mt_190 (1, 1515, 126, 1514, 9999) = true := by decide +kernel
theorem md_191 : mdB mt_191 (1, 1531, 126, 1530, 9999) = true := by decide +kernel
theorem md_192 : mdB mt_192 (1, 1528, 126, 1527, 9999) = true := by decide +kernel
theorem md_193 : mdB mt_193 (0, 1525, 126, 1524, 55) = true := by decide +kernel
theorem md_194 : mdB mt_194 (0, 1586, 126, 1585, 68) = true := by decide +kernel
theorem md_195 : mdB mt_195 (0, 1512, 126, 1511, 54) = true := by decide +kernel
theorem md_196 : mdB mt_196 (0, 1602, 126, 1601, 72) = true := by decide +kernel
theorem md_197 : mdB mt_197 (0, 1606, 126, 1605, 73) = true := by decide +kernel
theorem md_198 : mdB mt_198 (1, 1574, 126, 1573, 9999) = true := by decide +kernel
theorem md_199 : mdB mt_199 (0, 1582, 126, 1581, 67) = true := by decide +kernel
theorem md_200 : mdB mt_200 (0, 1567, 126, 1566, 64) = true := by decide +kernel
theorem md_201 : mdB mt_201 (0, 1563, 126, 1562, 63) = true := by decide +kernel
theorem md_202 : mdB mt_202 (0, 1571, 126, 1570, 65) = true := by decide +kernel
theorem md_203 : mdB mt_203 (0, 1614, 126, 1613, 75) = true := by decide +kernel
theorem md_204 : mdB mt_204 (0, 1610, 126, 1609, 74) = true := by decide +kernel
theorem md_205 : mdB mt_205 (0, 1598, 126, 1597, 71) = true := by decide +kernel
theorem md_206 : mdB mt_206 (0, 1594, 126, 1593, 70) = true := by decide +kernel
theorem md_207 : mdB mt_207 (0, 1578, 126, 1577, 66) = true := by decide +kernel
theorem md_208 : mdB mt_208 (0, 1559, 126, 1558, 62) = true := by decide +kernel
theorem md_209 : mdB mt_209 (0, 1590, 126, 1589, 69) = true := by decide +kernel
theorem md_210 : mdB mt_210 (0, 1555, 126, 1554, 61) = true := by decide +kernel
theorem md_211 : mdB mt_211 (0, 1551, 126, 1550, 60) = true := by decide +kernel
theorem md_212 : mdB mt_212 (0, 1543, 126, 1542, 58) = true := by decide +kernel
theorem md_213 : mdB mt_213 (0, 1547, 126, 1546, 59) = true := by decide +kernel
theorem md_214 : mdB mt_214 (0, 1539, 126, 1538, 57) = true := by decide +kernel
theorem md_215 : mdB mt_215 (0, 1535, 126, 1534, 56) = true := by decide +kernel
theorem md_216 : mdB mt_216 (0, 1508, 126, 1507, 53) = true := by decide +kernel
theorem md_217 : mdB mt_217 (0, 1504, 126, 1503, 52) = true := by decide +kernel
theorem md_218 : mdB mt_218 (0, 1481, 126, 1480, 49) = true := by decide +kernel
theorem md_219 : mdB mt_219 (0, 1477, 126, 1475, 1476) = true := by decide +kernel
theorem md_220 : mdB mt_220 (0, 1618, 126, 1616, 1617) = true := by decide +kernel
theorem md_221 : mdB mt_221 (0, 1622, 126, 1620, 1621) = true := by decide +kernel
theorem md_222 : mdB mt_222 (1, 1673, 126, 1672, 9999) = true := by decide +kernel
theorem md_223 : mdB mt_223 (1, 1670, 126, 1669, 9999) = true := by decide +kernel
theorem md_224 : mdB mt_224 (1, 1678, 126, 1677, 9999) = true := by decide +kernel
theorem md_225 : mdB mt_225 (0, 1665, 126, 1664, 83) = true := by decide +kernel
theorem md_226 : mdB mt_226 (1, 1681, 126, 1680, 9999) = true := by decide +kernel
theorem md_227 : mdB mt_227 (0, 1661, 126, 1660, 82) = true := by decide +kernel
theorem md_228 : mdB mt_228 (0, 1657, 126, 1656, 81) = true := by decide +kernel
theorem md_229 : mdB mt_229 (0, 1649, 126, 1648, 79) = true := by decide +kernel
theorem md_230 : mdB mt_230 (0, 1645, 126, 1644, 78) = true := by decide +kernel
theorem md_231 : mdB mt_231 (0, 1732, 126, 1731, 92) = true := by decide +kernel
theorem md_232 : mdB mt_232 (0, 1696, 126, 1695, 86) = true := by decide +kernel
theorem md_233 : mdB mt_233 (0, 1736, 126, 1735, 93) = true := by decide +kernel
theorem md_234 : mdB mt_234 (0, 1740, 126, 1739, 94) = true := by decide +kernel
theorem md_235 : mdB mt_235 (0, 1634, 126, 1633, 76) = true := by decide +kernel
theorem md_236 : mdB mt_236 (0, 1692, 126, 1691, 85) = true := by decide +kernel
theorem md_237 : mdB mt_237 (0, 1704, 126, 1703, 87) = true := by decide +kernel
theorem md_238 : mdB mt_238 (0, 1712, 126, 1711, 88) = true := by decide +kernel
theorem md_239 : mdB mt_239 (0, 1728, 126, 1727, 91) = true := by decide +kernel
theorem md_240 : mdB mt_240 (0, 1724, 126, 1723, 90) = true := by decide +kernel
theorem md_241 : mdB mt_241 (0, 1688, 126, 1687, 84) = true := by decide +kernel
theorem md_242 : mdB mt_242 (0, 1626, 126, 1624, 1625) = true := by decide +kernel
theorem md_243 : mdB mt_243 (0, 1630, 126, 1628, 1629) = true := by decide +kernel
theorem md_244 : mdB mt_244 (0, 1700, 126, 1698, 1699) = true := by decide +kernel
theorem md_245 : mdB mt_245 (0, 1708, 126, 1706, 1707) = true := by decide +kernel
theorem md_246 : mdB mt_246 (0, 1720, 126, 1719, 89) = true := by decide +kernel
theorem md_247 : mdB mt_247 (0, 1716, 126, 1714, 1715) = true := by decide +kernel
theorem md_248 : mdB mt_248 (0, 1751, 126, 1750, 95) = true := by decide +kernel
theorem md_249 : mdB mt_249 (0, 1747, 126, 1745, 1746) = true := by decide +kernel
theorem md_250 : mdB mt_250 (0, 1764, 126, 1763, 96) = true := by decide +kernel
theorem md_251 : mdB mt_251 (0, 1760, 126, 1758, 1759) = true := by decide +kernel
theorem md_252 : mdB mt_252 (0, 1768, 126, 1766, 1767) = true := by decide +kernel
theorem md_253 : mdB mt_253 (0, 1772, 126, 1770, 1771) = true := by decide +kernel
theorem md_254 : mdB mt_254 (0, 1776, 126, 1774, 1775) = true := by decide +kernel
theorem md_255 : mdB mt_255 (0, 1780, 126, 1778, 1779) = true := by decide +kernel
theorem md_256 : mdB mt_256 (0, 1784, 126, 1782, 1783) = true := by decide +kernel
theorem md_257 : mdB mt_257 (0, 1792, 126, 1791, 97) = true := by decide +kernel
theorem md_258 : mdB mt_258 (0, 1788, 126, 1786, 1787) = true := by decide +kernel
theorem md_259 : mdB mt_259 (0, 1796, 126, 1794, 1795) = true := by decide +kernel
theorem md_260 : mdB mt_260 (0, 1804, 126, 1803, 98) = true := by decide +kernel
theorem md_261 : mdB mt_261 (0, 1800, 126, 1798, 1799) = true := by decide +kernel
theorem md_262 : mdB mt_262 (0, 1808, 126, 1806, 1807) = true := by decide +kernel
theorem md_263 : mdB mt_263 (0, 1812, 126, 1810, 1811) = true := by decide +kernel
theorem md_264 : mdB mt_264 (0, 1820, 126, 1819, 99) = true := by decide +kernel
theorem md_265 : mdB mt_265 (0, 1816, 126, 1814, 1815) = true := by decide +kernel
theorem md_266 : mdB mt_266 (0, 1824, 126, 1822, 1823) = true := by decide +kernel
theorem md_267 : mdB mt_267 (0, 1832, 126, 1831, 100) = true := by decide +kernel
theorem md_268 : mdB mt_268 (0, 1828, 126, 1826, 1827) = true := by decide +kernel
theorem md_269 : mdB mt_269 (0, 1840, 126, 1839, 101) = true := by decide +kernel
theorem md_270 : mdB mt_270 (0, 1836, 126, 1834, 1835) = true := by decide +kernel
theorem md_271 : mdB mt_271 (0, 1844, 126, 1842, 1843) = true := by decide +kernel
theorem md_272 : mdB mt_272 (0, 1848, 126, 1846, 1847) = true := by decide +kernel
theorem md_273 : mdB mt_273 (0, 1852, 126, 1850, 1851) = true := by decide +kernel
theorem md_274 : mdB mt_274 (0, 1860, 126, 1859, 102) = true := by decide +kernel
theorem md_275 : mdB mt_275 (0, 1856, 126, 1854, 1855) = true := by decide +kernel
theorem md_276 : mdB mt_276 (1, 1867, 126, 1866, 9999) = true := by decide +kernel
theorem md_277 : mdB mt_277 (0, 1864, 126, 1862, 1863) = true := by decide +kernel
theorem md_278 : mdB mt_278 (0, 1879, 126, 1878, 104) = true := by decide +kernel
theorem md_279 : mdB mt_279 (0, 1875, 126, 1874, 103) = true := by decide +kernel
theorem md_280 : mdB mt_280 (0, 1871, 126, 1869, 1870) = true := by decide +kernel
theorem md_281 : mdB mt_281 (0, 1884, 126, 1882, 1883) = true := by decide +kernel
theorem md_282 : mdB mt_282 (0, 1892, 126, 1891, 105) = true := by decide +kernel
theorem md_283 : mdB mt_283 (0, 1888, 126, 1886, 1887) = true := by decide +kernel
theorem md_284 : mdB mt_284 (0, 1896, 126, 1894, 1895) = true := by decide +kernel
theorem md_285 : mdB mt_285 (0, 1900, 126, 1898, 1899) = true := by decide +kernel
theorem md_286 : mdB mt_286 (0, 1908, 126, 1907, 106) = true := by decide +kernel
theorem md_287 : mdB mt_287 (0, 1904, 126, 1902, 1903) = true := by decide +kernel
theorem md_288 : mdB mt_288 (0, 1912, 126, 1910, 1911) = true := by decide +kernel
theorem md_289 : mdB mt_289 (0, 1920, 126, 1919, 107) = true := by decide +kernel
theorem md_290 : mdB mt_290 (0, 1926, 126, 1925, 108) = true := by decide +kernel
theorem md_291 : mdB mt_291 (0, 1916, 126, 1914, 1915) = true := by decide +kernel
theorem md_292 : mdB mt_292 (0, 1938, 126, 1937, 110) = true := by decide +kernel
theorem md_293 : mdB mt_293 (0, 1934, 126, 1933, 109) = true := by decide +kernel
theorem md_294 : mdB mt_294 (0, 1930, 126, 1928, 1929) = true := by decide +kernel
theorem md_295 : mdB mt_295 (0, 1946, 126, 1945, 111) = true := by decide +kernel
theorem md_296 : mdB mt_296 (0, 1942, 126, 1940, 1941) = true := by decide +kernel
theorem md_297 : mdB mt_297 (0, 1950, 126, 1948, 1949) = true := by decide +kernel
theorem md_298 : mdB mt_298 (0, 1962, 126, 1961, 113) = true := by decide +kernel
theorem md_299 : mdB mt_299 (0, 1958, 126, 1957, 112) = true := by decide +kernel
theorem md_300 : mdB mt_300 (0, 1954, 126, 1952, 1953) = true := by decide +kernel
theorem md_301 : mdB mt_301 (0, 1966, 126, 1964, 1965) = true := by decide +kernel
theorem md_302 : mdB mt_302 (0, 1970, 126, 1968, 1969) = true := by decide +kernel
theorem md_303 : mdB mt_303 (0, 1974, 126, 1972, 1973) = true := by decide +kernel
theorem md_304 : mdB mt_304 (0, 1978, 126, 1976, 1977) = true := by decide +kernel
theorem md_305 : mdB mt_305 (0, 1982, 126, 1980, 1981) = true := by decide +kernel
theorem md_306 : mdB mt_306 (1, 835, 133, 834, 9999) = true := by decide +kernel
theorem md_307 : mdB mt_307 (0, 654, 127, 652, 653) = true := by decide +kernel
theorem md_308 : mdB mt_308 (0, 591, 127, 589, 590) = true := by decide +kernel
theorem md_309 : mdB mt_309 (0, 646, 127, 644, 645) = true := by decide +kernel
theorem md_310 : mdB mt_310 (0, 650, 127, 648, 649) = true := by decide +kernel
theorem md_311 : mdB mt_311 (0, 658, 127, 656, 657) = true := by decide +kernel
theorem md_312 : mdB mt_312 (0, 595, 127, 593, 594) = true := by decide +kernel
theorem md_313 : mdB mt_313 (1, 603, 127, 602, 9999) = true := by decide +kernel
theorem md_314 : mdB mt_314 (1, 600, 128, 599, 9999) = true := by decide +kernel
theorem md_315 : mdB mt_315 (1, 664, 128, 663, 9999) = true := by decide +kernel
theorem md_316 : mdB mt_316 (1, 661, 128, 660, 9999) = true := by decide +kernel
theorem md_317 : mdB mt_317 (1, 671, 128, 670, 9999) = true := by decide +kernel
theorem md_318 : mdB mt_318 (1, 608, 129, 607, 9999) = true := by decide +kernel
