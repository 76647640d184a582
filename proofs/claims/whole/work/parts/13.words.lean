/-! WHAT THE TABLES SAY: the words by their places in lw_tbl (written by wip/gen/gen.py) -/
def ip_tb : List Cond := lw_tbl.filter goodWord
theorem ip_wp {big : List Cond} (ws : List Cond) (ps : List Nat) (hp : ws = ps.filterMap (fun i => big[i]?)) (h : ws.all goodWord = true) : ∀ w ∈ ws, w ∈ big.filter goodWord := by
  intro w hw
  have h1 := List.all_eq_true.mp h w hw
  rw [hp] at hw
  obtain ⟨i, -, hi⟩ := List.mem_filterMap.mp hw
  exact List.mem_filter.mpr ⟨List.mem_of_getElem? hi, h1⟩
theorem ip_tb_good {ws : List Cond} (h : ∀ w ∈ ws, w ∈ ip_tb) {Ts : List Cond} (hT : ∀ w ∈ ip_tb, w ∈ Ts) : GoodIn Ts ws := fun w hw => ⟨hT w (h w hw), good_of_word (List.mem_filter.mp (h w hw)).2⟩
def ip_on (o : Nat) : String := ip_own.getD o ""
def ip_fd (c k : Nat) : String × String × String × Bool := match ip_cl[c]? with
  | some q => q.2.1 k
  | none => ("", "", "", false)
def ip_flw (e : Nat × Nat × Nat × Nat) : Cond := .fieldLink (ip_on e.1) e.2.1 (ip_fd e.2.2.1 e.2.2.2).1 (ip_fd e.2.2.1 e.2.2.2).2.1 (ip_fd e.2.2.1 e.2.2.2).2.2.1
def ip_wfn (k : Nat) : String × String := match k with
  | 0 => ("spelt", "J")
  | 1 => ("sort", "I")
  | _ => ("number", "I")
def ip_wfw (e : Nat × Nat × Nat) : Cond := .fieldLink (ip_on e.1) e.2.1 RX10 (ip_wfn e.2.2).1 (ip_wfn e.2.2).2
def ip_sfn (k : Nat) : String × String := match k with
  | 0 => ("value", "[B")
  | _ => ("coder", "B")
def ip_sfw (e : Nat × Nat × Nat) : Cond := .fieldLink (ip_on e.1) e.2.1 "java/lang/String" (ip_sfn e.2.2).1 (ip_sfn e.2.2).2
def ip_csw (e : Nat × Nat) : Cond := .fieldLink (ip_on e.1) e.2 "java/lang/String" "COMPACT_STRINGS" "Z"
def ip_sn (k : Nat) : String × String := if k = 30 then ("ALL", "[LLeaderlessOrder$Word;") else (ip_wn.getD k "", "LLeaderlessOrder$Word;")
def ip_slw (e : Nat × Nat × Nat) : Cond := .fieldLink (ip_on e.1) e.2.1 RX10 (ip_sn e.2.2).1 (ip_sn e.2.2).2
def ip_kiw (e : Nat × Nat × Nat) : Cond := .constant (ip_on e.1) e.2.1 (Int32.ofNat e.2.2)
def ip_klw (e : Nat × Nat × Nat) : Cond := .constantLong (ip_on e.1) e.2.1 (Int64.ofNat e.2.2)
def ip_cn (c : Nat) : String := match ip_cl[c]? with
  | some q => q.1
  | none => ""
def ip_clw (e : Nat × Nat × Nat) : Cond := .classLink (ip_on e.1) e.2.1 (ip_cn e.2.2)
def ip_an (t : Nat) : String := match t with
  | 4 => RX10
  | 5 => RX7
  | _ => RX3
def ip_alw (e : Nat × Nat × Nat) : Cond := .classLink (ip_on e.1) e.2.1 (ip_an e.2.2)
def ip_mn (y : Nat) : MethodName := match ip_ms[y]? with
  | some M => M.1
  | none => ⟨"", "", ""⟩
def ip_yn (e : Nat × Nat × Nat × Nat) : MethodName := if e.2.2.2 = 5 then objectInit else if e.2.2.2 = 6 then arraycopyName else if e.2.2.2 = 10 then Lib.Math.max.name else if e.2.2.2 = 11 then Lib.Math.min.name else if e.2.2.2 = 12 then Lib.Math.abs.name else ip_mn e.2.2.1
def ip_mlw (e : Nat × Nat × Nat × Nat) : Cond := .methodLink (ip_on e.1) e.2.1 (ip_yn e)
def ip_mw (M : Mt) : List Cond := .code M.1 M.2.1 M.2.2.1 M.2.2.2.1 :: .initialized M.1.cls :: (if M.2.2.2.2.2.1 = 0 then [.static M.1] else if M.2.2.2.2.2.1 = 1 then [.instanceMethod M.1, .selects M.1.cls M.1 M.1] else [.instanceMethod M.1])
set_option maxRecDepth 100000 in
theorem ip_FL_in : ∀ w ∈ ip_FL.map ip_flw, w ∈ ip_tb := ip_wp _ [292, 296, 301, 306, 312, 315, 280, 284, 288, 479, 480, 481, 240, 243, 241, 244, 302, 297, 309, 503, 504, 505, 501, 256, 259, 255, 281, 285, 287, 242, 257, 260, 343, 258, 205, 197, 201, 294, 299, 304, 311, 203, 316, 199, 207, 457, 458, 307, 403, 380, 385, 373, 406, 401, 377, 367, 282, 459, 460, 371, 290, 313, 442, 441, 443, 384, 394, 289, 382, 375, 392, 300, 305, 295, 398, 389, 372, 376, 379, 383, 387, 390, 393, 396, 399, 402, 405, 366, 369, 308, 193, 196, 198, 200, 202, 204, 194, 206, 345, 347, 349, 342, 515, 516, 517, 518, 519, 520, 521, 522, 523, 525, 524, 526, 527, 195, 344, 502, 293, 298, 303, 310, 400, 404, 407, 370, 374, 378, 381, 386, 395, 391, 286, 397, 388, 346, 348, 350, 291, 314, 283, 368, 482, 1428, 1436, 1437, 1438, 1439, 1440, 1441, 1442, 1443, 1444, 1446, 1447, 1448, 1449, 1450, 1451, 1452, 1453, 1454, 1455, 1456, 1457, 1459, 1460, 1461, 1462, 1463, 1464, 1465, 1466, 1467, 1468, 1469, 1470, 1471, 1472, 1474, 1426, 1427, 1429, 1430, 1431, 1433, 1434, 1432, 1435, 1445, 1458, 1473, 1475] (by decide +kernel) (by decide +kernel)
theorem ip_WF_in : ∀ w ∈ ip_WF.map ip_wfw, w ∈ ip_tb := ip_wp _ [2190, 2191, 2187] (by decide +kernel) (by decide +kernel)
theorem ip_SF_in : ∀ w ∈ ip_SF.map ip_sfw, w ∈ ip_tb := ip_wp _ [2189, 2188] (by decide +kernel) (by decide +kernel)
theorem ip_CS_in : ∀ w ∈ ip_CS.map ip_csw, w ∈ ip_tb := ip_wp _ [629] (by decide +kernel) (by decide +kernel)
theorem ip_SL_in : ∀ w ∈ ip_SL.map ip_slw, w ∈ ip_tb := ip_wp _ [254, 711, 737, 743, 775, 765, 771, 773, 799, 801, 789, 191, 602, 604] (by decide +kernel) (by decide +kernel)
theorem ip_KI_in : ∀ w ∈ ip_KI.map ip_kiw, w ∈ ip_tb := ip_wp _ [1001, 1002, 1003] (by decide +kernel) (by decide +kernel)
theorem ip_KL_in : ∀ w ∈ ip_KL.map ip_klw, w ∈ ip_tb := ip_wp _ [2169, 598, 563, 1323, 1324, 1320, 1321, 1322, 1586, 1607, 1608, 1693, 1694, 1695, 1696, 1670, 1671, 1672, 1609, 1630, 1642, 1651, 1652, 1653, 1654, 1655, 1656, 1657, 1658, 1659, 1660, 1661, 1662, 1663, 1664, 1665, 1666, 1667, 1668, 1669, 2149, 2150, 2151, 2152] (by decide +kernel) (by decide +kernel)
theorem ip_CL_in : ∀ w ∈ ip_CL.map ip_clw, w ∈ ip_tb := ip_wp _ [175, 1416, 476, 497, 499, 234, 183, 228, 274, 336, 360, 435, 451, 470, 490] (by decide +kernel) (by decide +kernel)
theorem ip_AL_in : ∀ w ∈ ip_AL.map ip_alw, w ∈ ip_tb := ip_wp _ [476, 189, 490] (by decide +kernel) (by decide +kernel)
set_option maxRecDepth 100000 in
theorem ip_ML_in : ∀ w ∈ (ip_ML.filter fun e => decide (e.2.2.2 ≠ 3) && decide (e.2.2.2 ≠ 4)).map ip_mlw, w ∈ ip_tb := ip_wp _ [177, 1418, 555, 1582, 568, 1587, 858, 1735, 883, 1751, 891, 1759, 902, 1767, 1779, 1578, 915, 1783, 919, 1787, 927, 1791, 935, 1798, 1128, 1837, 1132, 1857, 1136, 1892, 1140, 1912, 1144, 1920, 1148, 1932, 1152, 1936, 1156, 1940, 1160, 1972, 1164, 2004, 1168, 2020, 1176, 2024, 1184, 2036, 1188, 2040, 1192, 2044, 1198, 2048, 1204, 2052, 1208, 2056, 1218, 2064, 1222, 2068, 1228, 2072, 1235, 2076, 1252, 2092, 1257, 2096, 1261, 2100, 1266, 2104, 1271, 2108, 1277, 2112, 1286, 2120, 1291, 2124, 1299, 2132, 1309, 2137, 1329, 2157, 1343, 2165, 279, 838, 807, 811, 475, 947, 1127, 239, 815, 819, 827, 831, 822, 823, 824, 496, 500, 1337, 1338, 233, 576, 703, 707, 803, 866, 580, 713, 739, 745, 777, 717, 721, 725, 729, 749, 761, 767, 781, 785, 795, 791, 733, 870, 874, 753, 757, 456, 955, 978, 990, 1025, 1032, 1036, 1048, 960, 1072, 1110, 1114, 959, 961, 964, 969, 974, 982, 973, 986, 994, 1008, 1016, 1021, 1029, 998, 1004, 1040, 1052, 1056, 1118, 1012, 1060, 1064, 1068, 1122, 968, 440, 1080, 1081, 1085, 1076, 1086, 1090, 1097, 1094, 1101, 1105, 1106, 1243, 1244, 365, 845, 849, 852, 914, 1020, 1248, 188, 584, 605, 588, 591, 609, 612, 617, 595, 599, 341, 882, 180, 185, 230, 338, 437, 453, 472, 559, 572, 834, 841, 853, 862, 878, 887, 895, 899, 906, 910, 923, 931, 939, 1172, 951, 1180, 1196, 1197, 1202, 1203, 1212, 1226, 1227, 1232, 1233, 1234, 1239, 1256, 1265, 1047, 1270, 1275, 1276, 1281, 1282, 1290, 1295, 1303, 1304, 1216, 1313, 1325, 1333, 1339, 564, 943, 1123, 1217, 1308, 1317, 1421, 1422, 1603, 1689, 1610, 1626, 1618, 1697, 1599, 1727, 1723, 1731, 1639, 1635, 1622, 1647, 1673, 1677, 1685, 1595, 1614, 1631, 1643, 1681, 1705, 1743, 1716, 1717, 1718, 1719, 1712, 1591, 1701, 1708, 1739, 1747, 1795, 1775, 1829, 1833, 1806, 1810, 1845, 1865, 1868, 1880, 1884, 1888, 1900, 1928, 1825, 1853, 1876, 1908, 1964, 1956, 1960, 1952, 1968, 1771, 1988, 1984, 1992, 1996, 1980, 2000, 2016, 2012, 1755, 1763, 1818, 1802, 1814, 1821, 1841, 1849, 1861, 1872, 1896, 1904, 1916, 1924, 1944, 1948, 1976, 2008, 2028, 2032, 2060, 2088, 2084, 2080, 2116, 2128, 2136, 2145, 2141, 2153, 2161, 621, 625, 631, 639, 635, 642, 645, 648, 651] (by decide +kernel) (by decide +kernel)
def ip_nw : List Cond := (ip_ML.filter fun e => decide (e.2.2.2 = 3) || decide (e.2.2.2 = 4)).map fun e => .methodLinkNest (ip_on e.1) e.2.1 (ip_yn e) RX11
theorem ip_nw_in : ∀ w ∈ ip_nw, w ∈ lw_tbl := by
  have hp : ip_nw = [478, 498, 236, 1044, 276, 362, 493].filterMap (fun i => lw_tbl[i]?) := by decide +kernel
  intro w hw
  rw [hp] at hw
  obtain ⟨i, -, hi⟩ := List.mem_filterMap.mp hw
  exact List.mem_of_getElem? hi
set_option maxRecDepth 100000 in
theorem inX0 : ∀ w ∈ u_ws RX0 TX0 9, w ∈ ip_tb := ip_wp _ [317, 319, 321, 323, 325, 327, 329, 331, 333] (by decide +kernel) (by decide +kernel)
set_option maxRecDepth 100000 in
theorem inX1 : ∀ w ∈ u_ws RX1 TX1 3, w ∈ ip_tb := ip_wp _ [483, 485, 487] (by decide +kernel) (by decide +kernel)
set_option maxRecDepth 100000 in
theorem inX2 : ∀ w ∈ u_ws RX2 TX2 4, w ∈ ip_tb := ip_wp _ [245, 247, 249, 251] (by decide +kernel) (by decide +kernel)
set_option maxRecDepth 100000 in
theorem inX3 : ∀ w ∈ u_ws RX3 TX3 4, w ∈ ip_tb := ip_wp _ [506, 508, 510, 512] (by decide +kernel) (by decide +kernel)
set_option maxRecDepth 100000 in
theorem inX4 : ∀ w ∈ u_ws RX4 TX4 6, w ∈ ip_tb := ip_wp _ [261, 263, 265, 267, 269, 271] (by decide +kernel) (by decide +kernel)
set_option maxRecDepth 100000 in
theorem inX5 : ∀ w ∈ u_ws RX5 TX5 4, w ∈ ip_tb := ip_wp _ [461, 463, 465, 467] (by decide +kernel) (by decide +kernel)
set_option maxRecDepth 100000 in
theorem inX6 : ∀ w ∈ u_ws RX6 TX6 3, w ∈ ip_tb := ip_wp _ [444, 446, 448] (by decide +kernel) (by decide +kernel)
set_option maxRecDepth 100000 in
theorem inX7 : ∀ w ∈ u_ws RX7 TX7 13, w ∈ ip_tb := ip_wp _ [408, 410, 412, 414, 416, 418, 420, 422, 424, 426, 428, 430, 432] (by decide +kernel) (by decide +kernel)
set_option maxRecDepth 100000 in
theorem inX8 : ∀ w ∈ u_ws RX8 TX8 8, w ∈ ip_tb := ip_wp _ [208, 210, 212, 214, 216, 218, 220, 222] (by decide +kernel) (by decide +kernel)
set_option maxRecDepth 100000 in
theorem inX9 : ∀ w ∈ u_ws RX9 TX9 4, w ∈ ip_tb := ip_wp _ [351, 353, 355, 357] (by decide +kernel) (by decide +kernel)
set_option maxRecDepth 100000 in
theorem inX11 : ∀ w ∈ u_ws RX11 TX11 13, w ∈ ip_tb := ip_wp _ [528, 530, 532, 534, 536, 538, 540, 542, 544, 546, 548, 550, 552] (by decide +kernel) (by decide +kernel)
set_option maxRecDepth 100000 in
theorem inX12 : ∀ w ∈ u_ws RX12 TX12 50, w ∈ ip_tb := ip_wp _ [1476, 1478, 1480, 1482, 1484, 1486, 1488, 1490, 1492, 1494, 1496, 1498, 1500, 1502, 1504, 1506, 1508, 1510, 1512, 1514, 1516, 1518, 1520, 1522, 1524, 1526, 1528, 1530, 1532, 1534, 1536, 1538, 1540, 1542, 1544, 1546, 1548, 1550, 1552, 1554, 1556, 1558, 1560, 1562, 1564, 1566, 1568, 1570, 1572, 1574] (by decide +kernel) (by decide +kernel)
theorem inJE : ∀ w ∈ u_ws RJE TJE 0, w ∈ ip_tb := fun w h => absurd h (by simp [u_ws])
theorem ip_cl_in : ∀ (c : Nat) (q : vw_C), ip_cl[c]? = some q → ∀ w ∈ u_ws q.1 q.2.1 q.2.2, w ∈ ip_tb := by
  intro c q h
  match c, h with
  | 0, h => cases h; exact inX0
  | 1, h => cases h; exact inX1
  | 2, h => cases h; exact inX2
  | 3, h => cases h; exact inX3
  | 4, h => cases h; exact inX4
  | 5, h => cases h; exact inX5
  | 6, h => cases h; exact inX6
  | 7, h => cases h; exact inX7
  | 8, h => cases h; exact inX8
  | 9, h => cases h; exact inX9
  | 10, h => cases h; exact inX11
  | 11, h => cases h; exact inX12
  | 12, h => cases h; exact inJE
  | c + 13, h => simp at h
def ip_inst : List Cond := (ip_cl.take 12).flatMap fun q => [.instantiable q.1 q.2.2, .initialized q.1]
theorem ip_inst_in : ∀ w ∈ ip_inst, w ∈ ip_tb := ip_wp _ [275, 154, 471, 159, 235, 153, 492, 160, 229, 152, 452, 158, 436, 157, 361, 156, 184, 149, 337, 155, 176, 148, 1417, 161] (by decide +kernel) (by decide +kernel)
def ip_acw : List Cond := [.arrayClass .int, .arrayClass .long, .arrayClass .char, .arrayClass .boolean]
theorem ip_acw_in : ∀ w ∈ ip_acw, w ∈ ip_tb := ip_wp _ [226, 227, 225, 1577] (by decide +kernel) (by decide +kernel)
def ip_objw : List Cond := [.instanceMethod objectInit, .code objectInit ⟨#[0xb1]⟩ 1 none, .static arraycopyName, .initialized "java/lang/System", .native arraycopyName]
theorem ip_objw_in : ∀ w ∈ ip_objw, w ∈ ip_tb := ip_wp _ [181, 182, 839, 168, 840] (by decide +kernel) (by decide +kernel)
def ip_maw : List Cond := [.code Lib.Math.max.name Lib.Math.max.code 2 (some .int), .code Lib.Math.min.name Lib.Math.min.code 2 (some .int), .code Lib.Math.abs.name Lib.Math.abs.code 1 (some .int), .static Lib.Math.max.name, .static Lib.Math.min.name, .static Lib.Math.abs.name, .initialized "java/lang/Math"]
theorem ip_maw_in : ∀ w ∈ ip_maw, w ∈ ip_tb := ip_wp _ [647, 650, 826, 646, 649, 825, 164] (by decide +kernel) (by decide +kernel)
set_option maxRecDepth 100000 in
theorem ip_mw_0 : ∀ w ∈ ((ip_ms.drop 1).take 40).flatMap ip_mw, w ∈ ip_tb := ip_wp _ [278, 154, 277, 837, 154, 835, 836, 760, 154, 758, 759, 806, 154, 804, 805, 810, 154, 809, 24, 934, 154, 932, 933, 1007, 154, 1005, 1006, 1015, 154, 1013, 1014, 848, 154, 846, 847, 474, 159, 473, 946, 159, 944, 945, 1126, 159, 1124, 1125, 1175, 159, 1173, 1174, 856, 159, 854, 855, 238, 153, 237, 794, 153, 792, 793, 814, 153, 812, 813, 821, 153, 820, 833, 153, 832, 818, 153, 817, 25, 830, 153, 829, 26, 495, 160, 494, 1336, 160, 1334, 1335, 1342, 160, 1340, 1341, 232, 152, 231, 575, 152, 573, 574, 865, 152, 863, 864, 579, 152, 578, 1, 706, 152, 705, 6, 710, 152, 709, 7, 716, 152, 715, 8, 742, 152, 741, 14, 748, 152, 747, 15, 780, 152, 779, 20, 784, 152, 783, 21, 798, 152, 797, 23, 788, 152, 787, 22, 869, 152, 868, 27, 752, 152, 751, 16, 873, 152, 872, 28] rfl (by decide +kernel)
set_option maxRecDepth 100000 in
theorem ip_mw_1 : ∀ w ∈ ((ip_ms.drop 41).take 40).flatMap ip_mw, w ∈ ip_tb := ip_wp _ [756, 152, 755, 17, 764, 152, 763, 18, 770, 152, 769, 19, 732, 152, 731, 12, 728, 152, 727, 11, 736, 152, 735, 13, 720, 152, 719, 9, 724, 152, 723, 10, 455, 158, 454, 954, 158, 952, 953, 958, 158, 957, 32, 981, 158, 980, 35, 993, 158, 992, 37, 1028, 158, 1027, 38, 1035, 158, 1034, 39, 1039, 158, 1038, 40, 1051, 158, 1050, 41, 1113, 158, 1112, 50, 1117, 158, 1116, 51, 997, 158, 995, 996, 1011, 158, 1009, 1010, 1055, 158, 1053, 1054, 1059, 158, 1057, 1058, 1285, 158, 1283, 1284, 1063, 158, 1062, 42, 1067, 158, 1066, 43, 1071, 158, 1070, 44, 1121, 158, 1119, 1120, 967, 158, 966, 33, 972, 158, 971, 34, 963, 158, 962, 985, 158, 984, 36, 1031, 158, 1030, 439, 157, 438, 1079, 157, 1077, 1078, 1084, 157, 1083, 45, 1093, 157, 1091, 1092, 1075, 157, 1073, 1074, 1089, 157, 1088, 46, 1100, 157, 1099, 47] rfl (by decide +kernel)
set_option maxRecDepth 100000 in
theorem ip_mw_2 : ∀ w ∈ ((ip_ms.drop 81).take 40).flatMap ip_mw, w ∈ ip_tb := ip_wp _ [1096, 157, 1095, 1104, 157, 1103, 48, 1109, 157, 1108, 49, 1242, 157, 1240, 1241, 364, 156, 363, 901, 156, 900, 844, 156, 842, 843, 950, 156, 948, 949, 909, 156, 907, 908, 926, 156, 924, 925, 913, 156, 911, 912, 1043, 156, 1041, 1042, 989, 156, 987, 988, 1019, 156, 1017, 1018, 1024, 156, 1022, 1023, 977, 156, 975, 976, 1183, 156, 1181, 1182, 1251, 156, 1249, 1250, 1247, 156, 1245, 1246, 187, 149, 186, 567, 149, 565, 566, 583, 149, 581, 582, 587, 149, 586, 2, 594, 149, 593, 3, 615, 149, 614, 5, 608, 149, 607, 4, 590, 149, 589, 611, 149, 610, 340, 155, 339, 877, 155, 875, 876, 881, 155, 879, 880, 597, 151, 596, 601, 151, 600, 179, 148, 178, 558, 148, 556, 557, 571, 148, 569, 570, 861, 148, 859, 860, 886, 148, 884, 885, 894, 148, 892, 893, 905, 148, 903, 904] rfl (by decide +kernel)
set_option maxRecDepth 100000 in
theorem ip_mw_3 : ∀ w ∈ ((ip_ms.drop 121).take 40).flatMap ip_mw, w ∈ ip_tb := ip_wp _ [1354, 148, 1352, 1353, 918, 148, 916, 917, 922, 148, 920, 921, 930, 148, 928, 929, 938, 148, 936, 937, 1131, 148, 1129, 1130, 1135, 148, 1133, 1134, 1139, 148, 1137, 1138, 1143, 148, 1141, 1142, 1147, 148, 1145, 1146, 1151, 148, 1149, 1150, 1155, 148, 1153, 1154, 1159, 148, 1157, 1158, 1163, 148, 1161, 1162, 1167, 148, 1165, 1166, 1171, 148, 1169, 1170, 1179, 148, 1177, 1178, 1187, 148, 1185, 1186, 1191, 148, 1189, 1190, 1195, 148, 1193, 1194, 1201, 148, 1199, 1200, 1207, 148, 1205, 1206, 1211, 148, 1209, 1210, 1221, 148, 1219, 1220, 1225, 148, 1223, 1224, 1231, 148, 1229, 1230, 1238, 148, 1236, 1237, 1255, 148, 1253, 1254, 1260, 148, 1258, 1259, 1264, 148, 1262, 1263, 1269, 148, 1267, 1268, 1274, 148, 1272, 1273, 1280, 148, 1278, 1279, 1289, 148, 1287, 1288, 1294, 148, 1292, 1293, 1302, 148, 1300, 1301, 1312, 148, 1310, 1311, 1332, 148, 1330, 1331, 1346, 148, 1344, 1345, 562, 148, 561, 0] rfl (by decide +kernel)
set_option maxRecDepth 100000 in
theorem ip_mw_4 : ∀ w ∈ ((ip_ms.drop 161).take 40).flatMap ip_mw, w ∈ ip_tb := ip_wp _ [898, 148, 897, 30, 890, 148, 889, 29, 942, 148, 941, 31, 1215, 148, 1214, 52, 1298, 148, 1297, 53, 1307, 148, 1306, 54, 1316, 148, 1315, 55, 1328, 148, 1327, 56, 1319, 148, 1318, 1046, 148, 1045, 1420, 161, 1419, 1581, 161, 1579, 1580, 1641, 161, 1640, 1867, 161, 1866, 1797, 161, 1796, 1585, 161, 1583, 1584, 1606, 161, 1605, 62, 1602, 161, 1601, 61, 1613, 161, 1612, 63, 1629, 161, 1628, 67, 1621, 161, 1620, 65, 1700, 161, 1699, 77, 1692, 161, 1691, 76, 1688, 161, 1687, 75, 1726, 161, 1725, 82, 1730, 161, 1729, 83, 1734, 161, 1733, 84, 1722, 161, 1721, 81, 1650, 161, 1649, 71, 1676, 161, 1675, 72, 1638, 161, 1637, 69, 1680, 161, 1679, 73, 1625, 161, 1624, 66, 1617, 161, 1616, 64, 1634, 161, 1633, 68, 1646, 161, 1645, 70, 1684, 161, 1683, 74, 1598, 161, 1597, 60, 1594, 161, 1593, 59, 1707, 161, 1706] rfl (by decide +kernel)
set_option maxRecDepth 100000 in
theorem ip_mw_5 : ∀ w ∈ ((ip_ms.drop 201).take 40).flatMap ip_mw, w ∈ ip_tb := ip_wp _ [1704, 161, 1703, 78, 1820, 161, 1819, 1746, 161, 1745, 86, 1742, 161, 1741, 85, 1750, 161, 1749, 87, 2164, 161, 2163, 146, 1425, 161, 1424, 58, 1715, 161, 1714, 80, 1711, 161, 1710, 79, 1590, 161, 1588, 1589, 1738, 161, 1736, 1737, 1758, 161, 1757, 88, 1766, 161, 1765, 89, 1871, 161, 1870, 105, 1883, 161, 1882, 108, 1809, 161, 1808, 93, 1778, 161, 1777, 91, 1832, 161, 1831, 98, 1828, 161, 1827, 97, 1836, 161, 1835, 99, 1911, 161, 1910, 114, 1856, 161, 1855, 103, 1931, 161, 1930, 117, 1813, 161, 1812, 94, 1848, 161, 1847, 101, 1887, 161, 1886, 109, 1891, 161, 1890, 110, 1805, 161, 1804, 92, 1844, 161, 1843, 100, 1864, 161, 1863, 104, 1879, 161, 1878, 107, 1903, 161, 1902, 112, 1899, 161, 1898, 111, 1919, 161, 1918, 115, 1927, 161, 1926, 116, 1947, 161, 1946, 118, 1824, 161, 1823, 96, 1852, 161, 1851, 102, 1875, 161, 1874, 106, 1907, 161, 1906, 113] rfl (by decide +kernel)
set_option maxRecDepth 100000 in
theorem ip_mw_6 : ∀ w ∈ ((ip_ms.drop 241).take 40).flatMap ip_mw, w ∈ ip_tb := ip_wp _ [1959, 161, 1958, 121, 1967, 161, 1966, 123, 1963, 161, 1962, 122, 1955, 161, 1954, 120, 1971, 161, 1970, 124, 1951, 161, 1950, 119, 1774, 161, 1773, 90, 1991, 161, 1990, 128, 1987, 161, 1986, 127, 1995, 161, 1994, 129, 1999, 161, 1998, 130, 2003, 161, 2002, 131, 1983, 161, 1982, 126, 1979, 161, 1978, 125, 2019, 161, 2018, 134, 2015, 161, 2014, 133, 2011, 161, 2010, 132, 1754, 161, 1752, 1753, 1762, 161, 1760, 1761, 1770, 161, 1768, 1769, 1782, 161, 1780, 1781, 1786, 161, 1784, 1785, 1790, 161, 1788, 1789, 1794, 161, 1792, 1793, 1817, 161, 1816, 95, 1801, 161, 1799, 1800, 1840, 161, 1838, 1839, 1860, 161, 1858, 1859, 1895, 161, 1893, 1894, 1915, 161, 1913, 1914, 1923, 161, 1921, 1922, 1935, 161, 1933, 1934, 1939, 161, 1937, 1938, 1943, 161, 1941, 1942, 1975, 161, 1973, 1974, 2007, 161, 2005, 2006, 2023, 161, 2021, 2022, 2031, 161, 2030, 135, 2035, 161, 2034, 136, 2027, 161, 2025, 2026] rfl (by decide +kernel)
set_option maxRecDepth 100000 in
theorem ip_mw_7 : ∀ w ∈ ((ip_ms.drop 281).take 40).flatMap ip_mw, w ∈ ip_tb := ip_wp _ [2039, 161, 2037, 2038, 2043, 161, 2041, 2042, 2047, 161, 2045, 2046, 2051, 161, 2049, 2050, 2055, 161, 2053, 2054, 2063, 161, 2062, 137, 2059, 161, 2057, 2058, 2067, 161, 2065, 2066, 2071, 161, 2069, 2070, 2075, 161, 2073, 2074, 2091, 161, 2090, 140, 2087, 161, 2086, 139, 2083, 161, 2082, 138, 2079, 161, 2077, 2078, 2095, 161, 2093, 2094, 2099, 161, 2097, 2098, 2103, 161, 2101, 2102, 2107, 161, 2105, 2106, 2111, 161, 2109, 2110, 2119, 161, 2118, 141, 2115, 161, 2113, 2114, 2123, 161, 2121, 2122, 2131, 161, 2130, 142, 2127, 161, 2125, 2126, 2135, 161, 2133, 2134, 2148, 161, 2147, 144, 2144, 161, 2143, 143, 2156, 161, 2155, 145, 2140, 161, 2138, 2139, 2160, 161, 2158, 2159, 2168, 161, 2166, 2167, 1000, 174, 999, 851, 169, 850, 620, 162, 618, 619, 624, 162, 622, 623, 634, 162, 632, 633, 638, 162, 636, 637, 628, 162, 626, 627, 644, 163, 643, 641, 163, 640] rfl (by decide +kernel)
set_option maxRecDepth 100000 in
theorem ip_mw_8 : ∀ w ∈ ((ip_ms.drop 321).take 1).flatMap ip_mw, w ∈ ip_tb := ip_wp _ [653, 163, 652] rfl (by decide +kernel)
theorem ip_mw_sub {n k : Nat} (h : ∀ w ∈ ((ip_ms.drop n).take k).flatMap ip_mw, w ∈ ip_tb) {y : Nat} {M : Mt} (h1 : n ≤ y) (h2 : y < n + k) (hM : ip_ms[y]? = some M) : ∀ w ∈ ip_mw M, w ∈ ip_tb := by
  intro w hw
  refine h w (List.mem_flatMap.mpr ⟨M, List.mem_of_getElem? (i := y - n) ?_, hw⟩)
  rw [List.getElem?_take, if_pos (by omega), List.getElem?_drop, show n + (y - n) = y by omega]
  exact hM
set_option maxRecDepth 100000 in
theorem ip_ms_len : ip_ms.length = 322 := by decide +kernel
theorem ip_mw_in {y : Nat} {M : Mt} (h0 : 0 < y) (hM : ip_ms[y]? = some M) : ∀ w ∈ ip_mw M, w ∈ ip_tb := by
  have hl : y < ip_ms.length := (List.getElem?_eq_some_iff.mp hM).1
  rw [ip_ms_len] at hl
  by_cases c0 : y < 41
  · exact ip_mw_sub ip_mw_0 (n := 1) (k := 40) (by omega) (by omega) hM
  by_cases c1 : y < 81
  · exact ip_mw_sub ip_mw_1 (n := 41) (k := 40) (by omega) (by omega) hM
  by_cases c2 : y < 121
  · exact ip_mw_sub ip_mw_2 (n := 81) (k := 40) (by omega) (by omega) hM
  by_cases c3 : y < 161
  · exact ip_mw_sub ip_mw_3 (n := 121) (k := 40) (by omega) (by omega) hM
  by_cases c4 : y < 201
  · exact ip_mw_sub ip_mw_4 (n := 161) (k := 40) (by omega) (by omega) hM
  by_cases c5 : y < 241
  · exact ip_mw_sub ip_mw_5 (n := 201) (k := 40) (by omega) (by omega) hM
  by_cases c6 : y < 281
  · exact ip_mw_sub ip_mw_6 (n := 241) (k := 40) (by omega) (by omega) hM
  by_cases c7 : y < 321
  · exact ip_mw_sub ip_mw_7 (n := 281) (k := 40) (by omega) (by omega) hM
  exact ip_mw_sub ip_mw_8 (n := 321) (k := 1) (by omega) (by omega) hM
/-- a method's own facts: its name is plain, its parameters are counted, its class is that of its number, room for its locals, its kind -/
def ip_mch (M : Mt) : Bool := plainName M.1.cls && decide (M.1.cls ≠ "java/lang/invoke/MethodHandle") && decide (M.1.cls ≠ "java/lang/invoke/VarHandle") && decide ((parseMethodDescriptor M.1.desc).map (fun d => d.parameters.length) = some M.2.2.2.2.2.2.1) && decide (M.1.cls = ip_on M.2.2.2.2.1) && decide (M.2.2.1 ≤ 40) && (if M.2.2.2.2.2.1 = 2 then decide (M.1.name = "<init>") && decide (M.2.2.2.1 = none) else true) && (if M.2.2.2.2.2.1 = 1 then decide (M.2.2.2.2.1 < 12) || decide (M.2.2.2.2.1 = 17) else true)
set_option maxRecDepth 100000 in
theorem ip_mch_ok : ip_ms.all ip_mch = true := by decide +kernel
