/-! The words of the law, chunk by chunk, each by its place -/
def wsL_law0 : List Cond := (wsL_law0_r1 ++ (wsL_law0_r2 ++ (wsL_law0_r3 ++ (wsL_law0_r4 ++ (wsL_law0_r5 ++ (wsL_law0_r6 ++ (wsL_law0_r7 ++ (wsL_law0_r8 ++ (wsL_law0_r9 ++ (wsL_law0_r10 ++ (wsL_law0_r11 ++ (wsL_law0_r12 ++ (wsL_law0_r13 ++ (wsL_law0_r14 ++ (wsL_law0_r15 ++ (wsL_law0_r16 ++ (wsL_law0_r17 ++ (wsL_law0_r18 ++ (wsL_law0_r19 ++ (wsL_law0_r20 ++ (wsL_law0_r21 ++ (wsL_law0_r22 ++ (wsL_law0_r23 ++ (wsL_law0_r24 ++ (wsL_law0_r25 ++ (wsL_law0_r26 ++ (wsL_law0_r27 ++ (wsL_law0_r28 ++ (wsL_law0_r29 ++ (wsL_law0_r30 ++ (wsL_law0_r31 ++ (wsL_law0_r32 ++ (wsL_law0_r33 ++ (wsL_law0_r34 ++ (wsL_law0_r35 ++ (wsL_law0_r36 ++ (wsL_law0_r37 ++ (wsL_law0_r38 ++ (wsL_law0_r39 ++ (wsL_law0_r40 ++ (wsL_law0_r41 ++ (wsL_law0_r42 ++ (wsL_law0_r43 ++ (wsL_law0_r44 ++ (wsL_law0_r45 ++ (wsL_law0_r46 ++ (wsL_law0_r47 ++ (wsL_law0_r48 ++ (wsL_law0_r49 ++ (wsL_law0_r50 ++ (wsL_law0_r51 ++ (wsL_law0_r52 ++ wsL_law0_r53)))))))))))))))))))))))))))))))))))))))))))))))))))) ++ wsX110 ++ wsX140 ++ wsX100 ++ wsX70 ++ wsX90 ++ wsX30 ++ wsX10 ++ wsX50 ++ wsX20 ++ wsX130 ++ wsX120 ++ wsX60 ++ wsX40 ++ ([] : List Cond)
def wsL_law : List Cond := wsL_law0 ++ (vx_atS RX11 37 "java/lang/IllegalStateException" ["java/lang/RuntimeException", "java/lang/Exception"]).filter goodWord ++ (vx_atS RX11 48 "java/lang/IllegalArgumentException" ["java/lang/RuntimeException", "java/lang/Exception"]).filter goodWord ++ (vx_atS RX11 96 "java/lang/IndexOutOfBoundsException" ["java/lang/RuntimeException", "java/lang/Exception"]).filter goodWord
theorem mem_pl {big : List Cond} (ws : List Cond) (ps : List Nat) (hp : ws = ps.filterMap (fun i => big[i]?)) : ∀ w ∈ ws, w ∈ big := fun w hw => by
  rw [hp] at hw
  obtain ⟨i, -, hi⟩ := List.mem_filterMap.mp hw
  exact List.mem_of_getElem? hi
set_option maxRecDepth 20000 in
theorem in_wsL_law0_r1 : ∀ w ∈ wsL_law0_r1, w ∈ lw_tbl := mem_pl wsL_law0_r1 [122, 123, 93, 1196, 1197, 103, 165, 124, 125, 126, 127, 128, 129, 130, 131, 94, 441, 166, 167, 97, 442, 443, 444, 132] (by decide +kernel)
set_option maxRecDepth 20000 in
theorem in_wsL_law0_r2 : ∀ w ∈ wsL_law0_r2, w ∈ lw_tbl := mem_pl wsL_law0_r2 [133, 134, 135, 163, 142, 136, 143, 164, 145, 147, 138, 168, 169, 170, 171, 377, 172, 388, 174, 391, 176, 394, 178, 395] (by decide +kernel)
set_option maxRecDepth 20000 in
theorem in_wsL_law0_r3 : ∀ w ∈ wsL_law0_r3, w ∈ lw_tbl := mem_pl wsL_law0_r3 [180, 181, 98, 397, 399, 401, 402, 204, 99, 403, 233, 100, 404, 301, 101, 405, 348, 102, 182, 183, 184, 185, 186, 192] (by decide +kernel)
set_option maxRecDepth 20000 in
theorem in_wsL_law0_r4 : ∀ w ∈ wsL_law0_r4, w ∈ lw_tbl := mem_pl wsL_law0_r4 [193, 194, 187, 206, 207, 208, 220, 235, 236, 237, 263, 275, 303, 304, 305, 306, 319, 350, 351, 352, 1198, 1199, 1200, 1201] (by decide +kernel)
set_option maxRecDepth 20000 in
theorem in_wsL_law0_r5 : ∀ w ∈ wsL_law0_r5, w ∈ lw_tbl := mem_pl wsL_law0_r5 [1412, 1414, 1415, 1416, 1417, 1418, 1419, 1202, 1203, 104, 1422, 1424, 1319, 1320, 105, 1425, 1426, 1205, 1206, 1207, 1210, 1213, 1219, 1222] (by decide +kernel)
set_option maxRecDepth 20000 in
theorem in_wsL_law0_r6 : ∀ w ∈ wsL_law0_r6, w ∈ lw_tbl := mem_pl wsL_law0_r6 [1225, 1230, 1233, 1238, 1241, 1244, 1249, 1252, 1255, 1258, 1261, 1265, 1322, 1323, 1358, 1324, 1327, 1329, 1331, 1333, 1335, 1337, 1339, 1341] (by decide +kernel)
set_option maxRecDepth 20000 in
theorem in_wsL_law0_r7 : ∀ w ∈ wsL_law0_r7, w ∈ lw_tbl := mem_pl wsL_law0_r7 [1343, 1345, 1347, 1349, 1351, 1353, 1355, 1356, 1357, 1398, 1399, 1400, 1401, 1409, 1402, 1404, 41, 1405, 1406, 1408, 1407, 106, 971, 972] (by decide +kernel)
set_option maxRecDepth 20000 in
theorem in_wsL_law0_r8 : ∀ w ∈ wsL_law0_r8, w ∈ lw_tbl := mem_pl wsL_law0_r8 [92, 973, 974, 975, 976, 977, 978, 979, 110, 140, 995, 996, 997, 998, 141, 1462, 1463, 1464, 1465, 1411, 1413, 1466, 1468, 42] (by decide +kernel)
set_option maxRecDepth 20000 in
theorem in_wsL_law0_r9 : ∀ w ∈ wsL_law0_r9, w ∈ lw_tbl := mem_pl wsL_law0_r9 [1469, 1458, 1459, 1460, 1461, 999, 1000, 1001, 1002, 1003, 1004, 1005, 1006, 1007, 111, 1470, 1471, 1472, 1473, 1474, 1475, 1476, 454, 455] (by decide +kernel)
set_option maxRecDepth 20000 in
theorem in_wsL_law0_r10 : ∀ w ∈ wsL_law0_r10, w ∈ lw_tbl := mem_pl wsL_law0_r10 [456, 457, 559, 560, 116, 582, 374, 378, 458, 459, 460, 461, 149, 487, 462, 464, 0, 465, 466, 468, 1, 469, 470, 472] (by decide +kernel)
set_option maxRecDepth 20000 in
theorem in_wsL_law0_r11 : ∀ w ∈ wsL_law0_r11, w ∈ lw_tbl := mem_pl wsL_law0_r11 [2, 473, 474, 476, 3, 477, 478, 480, 4, 481, 486, 489, 482, 484, 5, 485, 491, 493, 6, 494, 1856, 497, 499, 7] (by decide +kernel)
set_option maxRecDepth 20000 in
theorem in_wsL_law0_r12 : ∀ w ∈ wsL_law0_r12, w ∈ lw_tbl := mem_pl wsL_law0_r12 [500, 501, 502, 503, 112, 504, 1857, 505, 506, 507, 508, 509, 1858, 511, 512, 513, 514, 515, 516, 517, 518, 519, 520, 113] (by decide +kernel)
set_option maxRecDepth 20000 in
theorem in_wsL_law0_r13 : ∀ w ∈ wsL_law0_r13, w ∈ lw_tbl := mem_pl wsL_law0_r13 [521, 522, 523, 524, 525, 527, 528, 114, 529, 530, 531, 115, 532, 533, 534, 535, 536, 537, 538, 539, 540, 541, 542, 543] (by decide +kernel)
set_option maxRecDepth 20000 in
theorem in_wsL_law0_r14 : ∀ w ∈ wsL_law0_r14, w ∈ lw_tbl := mem_pl wsL_law0_r14 [545, 547, 549, 551, 8, 552, 553, 554, 555, 557, 9, 558, 561, 562, 563, 564, 581, 565, 566, 117, 585, 586, 587, 583] (by decide +kernel)
set_option maxRecDepth 20000 in
theorem in_wsL_law0_r15 : ∀ w ∈ wsL_law0_r15, w ∈ lw_tbl := mem_pl wsL_law0_r15 [584, 567, 568, 569, 570, 571, 572, 118, 573, 574, 610, 611, 612, 613, 622, 623, 815, 589, 146, 588, 614, 615, 616, 617] (by decide +kernel)
set_option maxRecDepth 20000 in
theorem in_wsL_law0_r16 : ∀ w ∈ wsL_law0_r16, w ∈ lw_tbl := mem_pl wsL_law0_r16 [379, 381, 383, 386, 190, 618, 620, 10, 621, 144, 625, 626, 628, 629, 95, 630, 1859, 631, 633, 11, 634, 635, 669, 590] (by decide +kernel)
set_option maxRecDepth 20000 in
theorem in_wsL_law0_r17 : ∀ w ∈ wsL_law0_r17, w ∈ lw_tbl := mem_pl wsL_law0_r17 [210, 676, 682, 637, 639, 12, 640, 641, 643, 13, 644, 645, 148, 646, 647, 648, 649, 575, 650, 652, 14, 653, 654, 655] (by decide +kernel)
set_option maxRecDepth 20000 in
theorem in_wsL_law0_r18 : ∀ w ∈ wsL_law0_r18, w ∈ lw_tbl := mem_pl wsL_law0_r18 [656, 657, 658, 659, 660, 661, 662, 663, 664, 665, 666, 667, 668, 209, 213, 217, 671, 673, 15, 674, 675, 678, 680, 16] (by decide +kernel)
set_option maxRecDepth 20000 in
theorem in_wsL_law0_r19 : ∀ w ∈ wsL_law0_r19, w ∈ lw_tbl := mem_pl wsL_law0_r19 [681, 221, 684, 686, 17, 687, 688, 698, 239, 243, 700, 248, 702, 252, 690, 691, 692, 693, 694, 695, 696, 697, 238, 242] (by decide +kernel)
set_option maxRecDepth 20000 in
theorem in_wsL_law0_r20 : ∀ w ∈ wsL_law0_r20, w ∈ lw_tbl := mem_pl wsL_law0_r20 [247, 251, 255, 259, 266, 268, 271, 704, 706, 18, 707, 384, 712, 354, 718, 357, 398, 191, 360, 720, 363, 708, 709, 710] (by decide +kernel)
set_option maxRecDepth 20000 in
theorem in_wsL_law0_r21 : ∀ w ∈ wsL_law0_r21, w ∈ lw_tbl := mem_pl wsL_law0_r21 [711, 714, 716, 19, 717, 722, 724, 20, 725, 779, 726, 728, 21, 736, 737, 738, 739, 189, 729, 777, 730, 732, 22, 733] (by decide +kernel)
set_option maxRecDepth 20000 in
theorem in_wsL_law0_r22 : ∀ w ∈ wsL_law0_r22, w ∈ lw_tbl := mem_pl wsL_law0_r22 [734, 740, 742, 744, 746, 748, 23, 749, 771, 761, 750, 752, 24, 753, 767, 769, 754, 756, 25, 757, 758, 759, 763, 765] (by decide +kernel)
set_option maxRecDepth 20000 in
theorem in_wsL_law0_r23 : ∀ w ∈ wsL_law0_r23, w ∈ lw_tbl := mem_pl wsL_law0_r23 [773, 775, 26, 776, 781, 783, 27, 784, 785, 795, 809, 811, 307, 311, 813, 314, 787, 788, 789, 790, 791, 792, 793, 794] (by decide +kernel)
set_option maxRecDepth 20000 in
theorem in_wsL_law0_r24 : ∀ w ∈ wsL_law0_r24, w ∈ lw_tbl := mem_pl wsL_law0_r24 [310, 313, 316, 322, 325, 328, 797, 799, 28, 800, 801, 802, 803, 804, 805, 806, 807, 808, 1477, 1478, 1479, 1480, 1481, 1483] (by decide +kernel)
set_option maxRecDepth 20000 in
theorem in_wsL_law0_r25 : ∀ w ∈ wsL_law0_r25, w ∈ lw_tbl := mem_pl wsL_law0_r25 [43, 1484, 1420, 1421, 1485, 1487, 44, 1488, 1489, 1491, 45, 1492, 1493, 1495, 46, 1496, 1497, 1498, 1499, 1500, 1501, 1502, 1503, 1505] (by decide +kernel)
set_option maxRecDepth 20000 in
theorem in_wsL_law0_r26 : ∀ w ∈ wsL_law0_r26, w ∈ lw_tbl := mem_pl wsL_law0_r26 [47, 1506, 1507, 1509, 1510, 1512, 1513, 1514, 1515, 1516, 1517, 1518, 1519, 1520, 1521, 1522, 1523, 1527, 1528, 1524, 1525, 1526, 1529, 1530] (by decide +kernel)
set_option maxRecDepth 20000 in
theorem in_wsL_law0_r27 : ∀ w ∈ wsL_law0_r27, w ∈ lw_tbl := mem_pl wsL_law0_r27 [1531, 1532, 1533, 1534, 1535, 1536, 1537, 1538, 1539, 1540, 1541, 1542, 1543, 1544, 1545, 1546, 1547, 1548, 1549, 1550, 1551, 1552, 1553, 1554] (by decide +kernel)
set_option maxRecDepth 20000 in
theorem in_wsL_law0_r28 : ∀ w ∈ wsL_law0_r28, w ∈ lw_tbl := mem_pl wsL_law0_r28 [1555, 1556, 1557, 120, 1558, 1559, 1560, 1561, 1562, 1563, 1564, 1565, 1566, 1567, 1569, 48, 1570, 1571, 1573, 49, 1574, 1575, 1577, 50] (by decide +kernel)
set_option maxRecDepth 20000 in
theorem in_wsL_law0_r29 : ∀ w ∈ wsL_law0_r29, w ∈ lw_tbl := mem_pl wsL_law0_r29 [1578, 1579, 1581, 51, 1582, 1583, 1585, 52, 1586, 1587, 1589, 53, 1590, 1591, 1593, 54, 1594, 1595, 1597, 55, 1598, 1599, 1600, 1602] (by decide +kernel)
set_option maxRecDepth 20000 in
theorem in_wsL_law0_r30 : ∀ w ∈ wsL_law0_r30, w ∈ lw_tbl := mem_pl wsL_law0_r30 [56, 1603, 1604, 1606, 57, 1616, 1618, 60, 1619, 1607, 1608, 1610, 58, 1611, 1612, 1614, 59, 1615, 1620, 1622, 61, 1623, 1624, 1626] (by decide +kernel)
set_option maxRecDepth 20000 in
theorem in_wsL_law0_r31 : ∀ w ∈ wsL_law0_r31, w ∈ lw_tbl := mem_pl wsL_law0_r31 [62, 1627, 1628, 1630, 63, 1631, 1632, 1634, 64, 1635, 1636, 1638, 65, 1639, 1640, 1642, 66, 1643, 1644, 1646, 67, 1647, 1648, 1650] (by decide +kernel)
set_option maxRecDepth 20000 in
theorem in_wsL_law0_r32 : ∀ w ∈ wsL_law0_r32, w ∈ lw_tbl := mem_pl wsL_law0_r32 [68, 1651, 1652, 1654, 69, 1655, 1656, 1658, 70, 1659, 1660, 1662, 71, 1663, 1664, 1666, 72, 1667, 1668, 1670, 73, 1671, 817, 818] (by decide +kernel)
set_option maxRecDepth 20000 in
theorem in_wsL_law0_r33 : ∀ w ∈ wsL_law0_r33, w ∈ lw_tbl := mem_pl wsL_law0_r33 [819, 820, 1672, 1673, 1674, 1675, 1023, 1024, 1025, 1026, 1027, 845, 846, 847, 864, 121, 380, 382, 385, 387, 848, 849, 850, 851] (by decide +kernel)
set_option maxRecDepth 20000 in
theorem in_wsL_law0_r34 : ∀ w ∈ wsL_law0_r34, w ∈ lw_tbl := mem_pl wsL_law0_r34 [852, 853, 854, 855, 834, 835, 836, 837, 258, 856, 857, 858, 859, 246, 241, 860, 861, 862, 863, 274, 1676, 1677, 1678, 1679] (by decide +kernel)
set_option maxRecDepth 20000 in
theorem in_wsL_law0_r35 : ∀ w ∈ wsL_law0_r35, w ∈ lw_tbl := mem_pl wsL_law0_r35 [1680, 1682, 74, 1683, 1684, 1685, 1686, 1687, 1028, 1029, 1030, 1031, 932, 933, 934, 390, 222, 211, 215, 218, 935, 937, 30, 938] (by decide +kernel)
set_option maxRecDepth 20000 in
theorem in_wsL_law0_r36 : ∀ w ∈ wsL_law0_r36, w ∈ lw_tbl := mem_pl wsL_law0_r36 [940, 1688, 1689, 1690, 1691, 1692, 1694, 75, 1695, 1696, 1698, 76, 1699, 1700, 1701, 1702, 1703, 1704, 1706, 77, 1707, 1032, 1033, 1034] (by decide +kernel)
set_option maxRecDepth 20000 in
theorem in_wsL_law0_r37 : ∀ w ∈ wsL_law0_r37, w ∈ lw_tbl := mem_pl wsL_law0_r37 [1035, 952, 953, 954, 393, 245, 240, 249, 253, 257, 261, 264, 267, 273, 269, 946, 948, 31, 949, 1708, 1709, 1710, 1711, 1712] (by decide +kernel)
set_option maxRecDepth 20000 in
theorem in_wsL_law0_r38 : ∀ w ∈ wsL_law0_r38, w ∈ lw_tbl := mem_pl wsL_law0_r38 [1714, 78, 1715, 1716, 1718, 79, 1719, 1720, 1722, 80, 1723, 1036, 1037, 1038, 1039, 957, 958, 959, 396, 308, 317, 320, 323, 326] (by decide +kernel)
set_option maxRecDepth 20000 in
theorem in_wsL_law0_r39 : ∀ w ∈ wsL_law0_r39, w ∈ lw_tbl := mem_pl wsL_law0_r39 [329, 961, 962, 963, 964, 1724, 1725, 1726, 1727, 1728, 1730, 81, 1731, 1040, 1041, 1042, 1043, 1044, 1045, 1046, 1732, 1733, 1734, 1735] (by decide +kernel)
set_option maxRecDepth 20000 in
theorem in_wsL_law0_r40 : ∀ w ∈ wsL_law0_r40, w ∈ lw_tbl := mem_pl wsL_law0_r40 [1047, 1048, 1049, 1050, 1051, 1052, 1053, 1736, 1737, 1738, 1739, 1055, 1056, 1057, 1058, 1059, 1060, 1061, 400, 966, 967, 968, 969, 970] (by decide +kernel)
set_option maxRecDepth 20000 in
theorem in_wsL_law0_r41 : ∀ w ∈ wsL_law0_r41, w ∈ lw_tbl := mem_pl wsL_law0_r41 [1740, 1741, 1742, 1743, 1744, 1746, 82, 1747, 1748, 1749, 1750, 1751, 1752, 1063, 1064, 1065, 1066, 943, 944, 945, 276, 1753, 1754, 1755] (by decide +kernel)
set_option maxRecDepth 20000 in
theorem in_wsL_law0_r42 : ∀ w ∈ wsL_law0_r42, w ∈ lw_tbl := mem_pl wsL_law0_r42 [1756, 1067, 1068, 1069, 1070, 1071, 1072, 1073, 1757, 1758, 1759, 1760, 821, 822, 823, 824, 825, 826, 827, 828, 829, 1761, 1762, 1763] (by decide +kernel)
set_option maxRecDepth 20000 in
theorem in_wsL_law0_r43 : ∀ w ∈ wsL_law0_r43, w ∈ lw_tbl := mem_pl wsL_law0_r43 [1764, 1765, 1766, 1767, 1768, 1769, 1770, 1771, 1074, 1075, 1076, 1077, 1078, 1079, 1080, 1081, 1082, 1083, 1085, 1086, 1087, 1088, 376, 1089] (by decide +kernel)
set_option maxRecDepth 20000 in
theorem in_wsL_law0_r44 : ∀ w ∈ wsL_law0_r44, w ∈ lw_tbl := mem_pl wsL_law0_r44 [1090, 1092, 32, 1093, 216, 1094, 1096, 33, 1097, 355, 358, 212, 361, 364, 1098, 1099, 1100, 1101, 1102, 1108, 1103, 1104, 1105, 1106] (by decide +kernel)
set_option maxRecDepth 20000 in
theorem in_wsL_law0_r45 : ∀ w ∈ wsL_law0_r45, w ∈ lw_tbl := mem_pl wsL_law0_r45 [375, 392, 256, 260, 244, 272, 389, 214, 1107, 1109, 1110, 1111, 1112, 1113, 1114, 1116, 34, 1117, 309, 312, 315, 1118, 1119, 1121] (by decide +kernel)
set_option maxRecDepth 20000 in
theorem in_wsL_law0_r46 : ∀ w ∈ wsL_law0_r46, w ∈ lw_tbl := mem_pl wsL_law0_r46 [35, 1122, 265, 262, 277, 1123, 1125, 36, 1126, 223, 254, 250, 1127, 1128, 1129, 1130, 1131, 1132, 1134, 37, 1135, 270, 219, 1136] (by decide +kernel)
set_option maxRecDepth 20000 in
theorem in_wsL_law0_r47 : ∀ w ∈ wsL_law0_r47, w ∈ lw_tbl := mem_pl wsL_law0_r47 [1138, 38, 1139, 318, 321, 324, 327, 330, 1140, 1141, 1143, 39, 1144, 1145, 1146, 1147, 1148, 1149, 1150, 1772, 1773, 1774, 1775, 1776] (by decide +kernel)
set_option maxRecDepth 20000 in
theorem in_wsL_law0_r48 : ∀ w ∈ wsL_law0_r48, w ∈ lw_tbl := mem_pl wsL_law0_r48 [1777, 1778, 1779, 1325, 1780, 1781, 1783, 83, 1784, 1785, 1787, 84, 1788, 1789, 1791, 85, 1792, 1794, 1795, 1796, 1798, 86, 1799, 1800] (by decide +kernel)
set_option maxRecDepth 20000 in
theorem in_wsL_law0_r49 : ∀ w ∈ wsL_law0_r49, w ∈ lw_tbl := mem_pl wsL_law0_r49 [1802, 1803, 1804, 1805, 1807, 87, 1808, 1809, 1811, 88, 1812, 1813, 1815, 89, 1816, 1817, 1819, 90, 1820, 1151, 1152, 1153, 1154, 1155] (by decide +kernel)
set_option maxRecDepth 20000 in
theorem in_wsL_law0_r50 : ∀ w ∈ wsL_law0_r50, w ∈ lw_tbl := mem_pl wsL_law0_r50 [1156, 1157, 1159, 1161, 40, 1162, 1163, 1164, 1165, 1166, 1167, 1168, 1169, 1170, 353, 356, 359, 362, 1171, 1172, 1173, 1174, 1821, 1822] (by decide +kernel)
set_option maxRecDepth 20000 in
theorem in_wsL_law0_r51 : ∀ w ∈ wsL_law0_r51, w ∈ lw_tbl := mem_pl wsL_law0_r51 [1823, 1824, 1825, 1826, 1827, 1828, 1175, 1176, 1177, 1178, 1179, 1180, 1181, 1829, 1830, 1831, 1832, 1833, 1835, 91, 1836, 1182, 1183, 1184] (by decide +kernel)
set_option maxRecDepth 20000 in
theorem in_wsL_law0_r52 : ∀ w ∈ wsL_law0_r52, w ∈ lw_tbl := mem_pl wsL_law0_r52 [1185, 1186, 1187, 1188, 1837, 1838, 1839, 1840, 1189, 1190, 1191, 1192, 1193, 1194, 1195, 1841, 1842, 1843, 1844, 830, 831, 832, 833, 1845] (by decide +kernel)
set_option maxRecDepth 20000 in
theorem in_wsL_law0_r53 : ∀ w ∈ wsL_law0_r53, w ∈ lw_tbl := mem_pl wsL_law0_r53 [1846, 1847, 1848, 838, 839, 840, 841, 842, 843, 844, 931, 942, 951, 956, 1849, 1850, 1851, 1852, 1853, 1854] (by decide +kernel)
theorem in_wsX110 : ∀ w ∈ wsX110, w ∈ lw_tbl := by decide +kernel
theorem in_wsX140 : ∀ w ∈ wsX140, w ∈ lw_tbl := by decide +kernel
theorem in_wsX100 : ∀ w ∈ wsX100, w ∈ lw_tbl := by decide +kernel
theorem in_wsX70 : ∀ w ∈ wsX70, w ∈ lw_tbl := by decide +kernel
theorem in_wsX90 : ∀ w ∈ wsX90, w ∈ lw_tbl := by decide +kernel
theorem in_wsX30 : ∀ w ∈ wsX30, w ∈ lw_tbl := by decide +kernel
theorem in_wsX10 : ∀ w ∈ wsX10, w ∈ lw_tbl := by decide +kernel
theorem in_wsX50 : ∀ w ∈ wsX50, w ∈ lw_tbl := by decide +kernel
theorem in_wsX20 : ∀ w ∈ wsX20, w ∈ lw_tbl := by decide +kernel
theorem in_wsX130 : ∀ w ∈ wsX130, w ∈ lw_tbl := by decide +kernel
theorem in_wsX120 : ∀ w ∈ wsX120, w ∈ lw_tbl := by decide +kernel
theorem in_wsX60 : ∀ w ∈ wsX60, w ∈ lw_tbl := by decide +kernel
theorem in_wsX40 : ∀ w ∈ wsX40, w ∈ lw_tbl := by decide +kernel
theorem wsL_law_in0 : ∀ w ∈ wsL_law0, w ∈ lw_tbl := fun w h => (List.mem_append.mp h).elim (fun h => (List.mem_append.mp h).elim (fun h => (List.mem_append.mp h).elim (fun h => (List.mem_append.mp h).elim (fun h => (List.mem_append.mp h).elim (fun h => (List.mem_append.mp h).elim (fun h => (List.mem_append.mp h).elim (fun h => (List.mem_append.mp h).elim (fun h => (List.mem_append.mp h).elim (fun h => (List.mem_append.mp h).elim (fun h => (List.mem_append.mp h).elim (fun h => (List.mem_append.mp h).elim (fun h => (List.mem_append.mp h).elim (fun h => (List.mem_append.mp h).elim (fun h => (List.mem_append.mp h).elim (fun h => in_wsL_law0_r1 w h) (fun h => (List.mem_append.mp h).elim (fun h => in_wsL_law0_r2 w h) (fun h => (List.mem_append.mp h).elim (fun h => in_wsL_law0_r3 w h) (fun h => (List.mem_append.mp h).elim (fun h => in_wsL_law0_r4 w h) (fun h => (List.mem_append.mp h).elim (fun h => in_wsL_law0_r5 w h) (fun h => (List.mem_append.mp h).elim (fun h => in_wsL_law0_r6 w h) (fun h => (List.mem_append.mp h).elim (fun h => in_wsL_law0_r7 w h) (fun h => (List.mem_append.mp h).elim (fun h => in_wsL_law0_r8 w h) (fun h => (List.mem_append.mp h).elim (fun h => in_wsL_law0_r9 w h) (fun h => (List.mem_append.mp h).elim (fun h => in_wsL_law0_r10 w h) (fun h => (List.mem_append.mp h).elim (fun h => in_wsL_law0_r11 w h) (fun h => (List.mem_append.mp h).elim (fun h => in_wsL_law0_r12 w h) (fun h => (List.mem_append.mp h).elim (fun h => in_wsL_law0_r13 w h) (fun h => (List.mem_append.mp h).elim (fun h => in_wsL_law0_r14 w h) (fun h => (List.mem_append.mp h).elim (fun h => in_wsL_law0_r15 w h) (fun h => (List.mem_append.mp h).elim (fun h => in_wsL_law0_r16 w h) (fun h => (List.mem_append.mp h).elim (fun h => in_wsL_law0_r17 w h) (fun h => (List.mem_append.mp h).elim (fun h => in_wsL_law0_r18 w h) (fun h => (List.mem_append.mp h).elim (fun h => in_wsL_law0_r19 w h) (fun h => (List.mem_append.mp h).elim (fun h => in_wsL_law0_r20 w h) (fun h => (List.mem_append.mp h).elim (fun h => in_wsL_law0_r21 w h) (fun h => (List.mem_append.mp h).elim (fun h => in_wsL_law0_r22 w h) (fun h => (List.mem_append.mp h).elim (fun h => in_wsL_law0_r23 w h) (fun h => (List.mem_append.mp h).elim (fun h => in_wsL_law0_r24 w h) (fun h => (List.mem_append.mp h).elim (fun h => in_wsL_law0_r25 w h) (fun h => (List.mem_append.mp h).elim (fun h => in_wsL_law0_r26 w h) (fun h => (List.mem_append.mp h).elim (fun h => in_wsL_law0_r27 w h) (fun h => (List.mem_append.mp h).elim (fun h => in_wsL_law0_r28 w h) (fun h => (List.mem_append.mp h).elim (fun h => in_wsL_law0_r29 w h) (fun h => (List.mem_append.mp h).elim (fun h => in_wsL_law0_r30 w h) (fun h => (List.mem_append.mp h).elim (fun h => in_wsL_law0_r31 w h) (fun h => (List.mem_append.mp h).elim (fun h => in_wsL_law0_r32 w h) (fun h => (List.mem_append.mp h).elim (fun h => in_wsL_law0_r33 w h) (fun h => (List.mem_append.mp h).elim (fun h => in_wsL_law0_r34 w h) (fun h => (List.mem_append.mp h).elim (fun h => in_wsL_law0_r35 w h) (fun h => (List.mem_append.mp h).elim (fun h => in_wsL_law0_r36 w h) (fun h => (List.mem_append.mp h).elim (fun h => in_wsL_law0_r37 w h) (fun h => (List.mem_append.mp h).elim (fun h => in_wsL_law0_r38 w h) (fun h => (List.mem_append.mp h).elim (fun h => in_wsL_law0_r39 w h) (fun h => (List.mem_append.mp h).elim (fun h => in_wsL_law0_r40 w h) (fun h => (List.mem_append.mp h).elim (fun h => in_wsL_law0_r41 w h) (fun h => (List.mem_append.mp h).elim (fun h => in_wsL_law0_r42 w h) (fun h => (List.mem_append.mp h).elim (fun h => in_wsL_law0_r43 w h) (fun h => (List.mem_append.mp h).elim (fun h => in_wsL_law0_r44 w h) (fun h => (List.mem_append.mp h).elim (fun h => in_wsL_law0_r45 w h) (fun h => (List.mem_append.mp h).elim (fun h => in_wsL_law0_r46 w h) (fun h => (List.mem_append.mp h).elim (fun h => in_wsL_law0_r47 w h) (fun h => (List.mem_append.mp h).elim (fun h => in_wsL_law0_r48 w h) (fun h => (List.mem_append.mp h).elim (fun h => in_wsL_law0_r49 w h) (fun h => (List.mem_append.mp h).elim (fun h => in_wsL_law0_r50 w h) (fun h => (List.mem_append.mp h).elim (fun h => in_wsL_law0_r51 w h) (fun h => (List.mem_append.mp h).elim (fun h => in_wsL_law0_r52 w h) (fun h => in_wsL_law0_r53 w h))))))))))))))))))))))))))))))))))))))))))))))))))))) (fun h => in_wsX110 w h)) (fun h => in_wsX140 w h)) (fun h => in_wsX100 w h)) (fun h => in_wsX70 w h)) (fun h => in_wsX90 w h)) (fun h => in_wsX30 w h)) (fun h => in_wsX10 w h)) (fun h => in_wsX50 w h)) (fun h => in_wsX20 w h)) (fun h => in_wsX130 w h)) (fun h => in_wsX120 w h)) (fun h => in_wsX60 w h)) (fun h => in_wsX40 w h)) (fun h => absurd h List.not_mem_nil)
theorem wsL_law_x0 : ∀ w ∈ (vx_atS RX11 37 "java/lang/IllegalStateException" ["java/lang/RuntimeException", "java/lang/Exception"]).filter goodWord, w ∈ lw_tbl := by decide +kernel
theorem wsL_law_x1 : ∀ w ∈ (vx_atS RX11 48 "java/lang/IllegalArgumentException" ["java/lang/RuntimeException", "java/lang/Exception"]).filter goodWord, w ∈ lw_tbl := by decide +kernel
theorem wsL_law_x2 : ∀ w ∈ (vx_atS RX11 96 "java/lang/IndexOutOfBoundsException" ["java/lang/RuntimeException", "java/lang/Exception"]).filter goodWord, w ∈ lw_tbl := by decide +kernel
theorem wsL_law_in : ∀ w ∈ wsL_law, w ∈ lw_tbl := fun w h => (List.mem_append.mp h).elim (fun h => (List.mem_append.mp h).elim (fun h => (List.mem_append.mp h).elim (fun h => wsL_law_in0 w h) (fun h => wsL_law_x0 w h)) (fun h => wsL_law_x1 w h)) (fun h => wsL_law_x2 w h)
/-- the words that the methods with two handlers want beside -/
def wsL_xw : List Cond := [.codeWith yL_advise cL_advise 5 (some .int) [(0, 10, 13, 24), (0, 10, 17, 19)], .codeWith yL_foresee cL_foresee 5 (some .int) [(0, 10, 13, 19), (0, 10, 17, 24)], .codeWith yL_mend cL_mend 4 (some .int) [(0, 9, 12, 24), (0, 9, 15, 13)], .codeWith yL_pays cL_pays 5 (some .int) [(0, 10, 13, 24), (0, 10, 17, 19)], Cond.classLink RL 19 "java/lang/IllegalArgumentException", Cond.classLink RL 24 "java/lang/IndexOutOfBoundsException", Cond.classLink RL 13 "java/lang/IllegalStateException"]
theorem in_wsL_xw : ∀ w ∈ wsL_xw, w ∈ lw_tbl := mem_pl wsL_xw [1191, 1153, 1049, 1177, 1002, 1026, 974] (by decide +kernel)
def wsLL : List Cond := wsL_law ++ wsL_xw
theorem wsLL_in : ∀ w ∈ wsLL, w ∈ lw_tbl := fun w h => (List.mem_append.mp h).elim (fun h => wsL_law_in w h) (fun h => in_wsL_xw w h)
