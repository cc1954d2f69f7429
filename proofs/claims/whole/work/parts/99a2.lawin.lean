set_option maxRecDepth 20000 in
theorem in_wsL_law0_r27 : ∀ w ∈ wsL_law0_r27, w ∈ lw_tbl := mem_pl wsL_law0_r27 [1531, 1532, 1533, 1534, 1535, 1536, 1537, 1538, 1539, 1540, 1541, 1542, 1543, 1544, 1545, 1546, 1547, 1548, 1549, 1550, 1551, 1552, 1553, 1554] (by decide +kernel)
set_option maxRecDepth 20000 in
theorem in_wsL_law0_r28 : ∀ w ∈ wsL_law0_r28, w ∈ lw_tbl := mem_pl wsL_law0_r28 [1555, 1556, 1557, 120, 1558, 1559, 1560, 1561, 1562, 1563, 1564, 1565, 1566, 1567, 1569, 48, 1570, 1571, 1573, 49, 1574, 1575, 1577, 50] (by decide +kernel)
set_option maxRecDepth 20000 in
theorem in_wsL_law0_r29 : ∀ w ∈ wsL_law0_r29, w ∈ lw_tbl := mem_pl wsL_law0_r29 [1578, 1579, 1581, 51, 1582, 1583, 1585, 52, 1586, 1587, 1589, 53, 1590, 1591, 1593, 54, 1594, 1595, 1597, 55, 1598, 1599, 1600, 1602] (by decide +kernel)
set_option maxRecDepth 20000 in
theorem in_wsL_law0_r30 : ∀ w ∈ wsL_law0_r30, w ∈ lw_tbl := mem_pl wsL_law0_r30 [56, 1603, 1604, 1606, 57, 1616, 1618, 60, 1619, 1607, 1608, 1610, 58, 1611, 1612, 1614, 59, 1615, 1620, 1622, 61, 1623, 1624, 1626] (by decide +kernel)
set_option maxRecDepth 20000 in
theorem in_wsL_law0_r31 : ∀ w ∈ wsL_law0_r31, w ∈ lw_tbl := mem_pl wsL_law0_r31 [62, 1627, 1628, 1630, 63, 1631, 1632, 1634, 64, 1635, 1636, 1638, 65, 1639, 1640, 1642, 66, 1643, 1644, 1646, 67, 1647, 1648, 1650] (by decide +kernel)
set_option maxRecDepth 20000 in
theorem in_wsL_law0_r32 : ∀ w ∈ wsL_law0_r32, w ∈ lw_tbl := mem_pl wsL_law0_r32 [68, 1651, 1652, 1654, 69, 1655, 1656, 1658, 70, 1659, 1660, 1662, 71, 1663, 1664, 1666, 72, 1667, 1668, 1670, 73, 1671, 817, 818] (by decide +kernel)
set_option maxRecDepth 20000 in
theorem in_wsL_law0_r33 : ∀ w ∈ wsL_law0_r33, w ∈ lw_tbl := mem_pl wsL_law0_r33 [819, 820, 1672, 1673, 1674, 1675, 1023, 1024, 1025, 1026, 1027, 845, 846, 847, 864, 121, 380, 382, 385, 387, 848, 849, 850, 851] (by decide +kernel)
set_option maxRecDepth 20000 in
theorem in_wsL_law0_r34 : ∀ w ∈ wsL_law0_r34, w ∈ lw_tbl := mem_pl wsL_law0_r34 [852, 853, 854, 855, 834, 835, 836, 837, 258, 856, 857, 858, 859, 246, 241, 860, 861, 862, 863, 274, 1676, 1677, 1678, 1679] (by decide +kernel)
set_option maxRecDepth 20000 in
theorem in_wsL_law0_r35 : ∀ w ∈ wsL_law0_r35, w ∈ lw_tbl := mem_pl wsL_law0_r35 [1680, 1682, 74, 1683, 1684, 1685, 1686, 1687, 1028, 1029, 1030, 1031, 932, 933, 934, 390, 222, 211, 215, 218, 935, 937, 30, 938] (by decide +kernel)
set_option maxRecDepth 20000 in
theorem in_wsL_law0_r36 : ∀ w ∈ wsL_law0_r36, w ∈ lw_tbl := mem_pl wsL_law0_r36 [940, 1688, 1689, 1690, 1691, 1692, 1694, 75, 1695, 1696, 1698, 76, 1699, 1700, 1701, 1702, 1703, 1704, 1706, 77, 1707, 1032, 1033, 1034] (by decide +kernel)
set_option maxRecDepth 20000 in
theorem in_wsL_law0_r37 : ∀ w ∈ wsL_law0_r37, w ∈ lw_tbl := mem_pl wsL_law0_r37 [1035, 952, 953, 954, 393, 245, 240, 249, 253, 257, 261, 264, 267, 273, 269, 946, 948, 31, 949, 1708, 1709, 1710, 1711, 1712] (by decide +kernel)
set_option maxRecDepth 20000 in
theorem in_wsL_law0_r38 : ∀ w ∈ wsL_law0_r38, w ∈ lw_tbl := mem_pl wsL_law0_r38 [1714, 78, 1715, 1716, 1718, 79, 1719, 1720, 1722, 80, 1723, 1036, 1037, 1038, 1039, 957, 958, 959, 396, 308, 317, 320, 323, 326] (by decide +kernel)
set_option maxRecDepth 20000 in
theorem in_wsL_law0_r39 : ∀ w ∈ wsL_law0_r39, w ∈ lw_tbl := mem_pl wsL_law0_r39 [329, 961, 962, 963, 964, 1724, 1725, 1726, 1727, 1728, 1730, 81, 1731, 1040, 1041, 1042, 1043, 1044, 1045, 1046, 1732, 1733, 1734, 1735] (by decide +kernel)
set_option maxRecDepth 20000 in
theorem in_wsL_law0_r40 : ∀ w ∈ wsL_law0_r40, w ∈ lw_tbl := mem_pl wsL_law0_r40 [1047, 1048, 1049, 1050, 1051, 1052, 1053, 1736, 1737, 1738, 1739, 1055, 1056, 1057, 1058, 1059, 1060, 1061, 400, 966, 967, 968, 969, 970] (by decide +kernel)
set_option maxRecDepth 20000 in
theorem in_wsL_law0_r41 : ∀ w ∈ wsL_law0_r41, w ∈ lw_tbl := mem_pl wsL_law0_r41 [1740, 1741, 1742, 1743, 1744, 1746, 82, 1747, 1748, 1749, 1750, 1751, 1752, 1063, 1064, 1065, 1066, 943, 944, 945, 276, 1753, 1754, 1755] (by decide +kernel)
set_option maxRecDepth 20000 in
theorem in_wsL_law0_r42 : ∀ w ∈ wsL_law0_r42, w ∈ lw_tbl := mem_pl wsL_law0_r42 [1756, 1067, 1068, 1069, 1070, 1071, 1072, 1073, 1757, 1758, 1759, 1760, 821, 822, 823, 824, 825, 826, 827, 828, 829, 1761, 1762, 1763] (by decide +kernel)
set_option maxRecDepth 20000 in
theorem in_wsL_law0_r43 : ∀ w ∈ wsL_law0_r43, w ∈ lw_tbl := mem_pl wsL_law0_r43 [1764, 1765, 1766, 1767, 1768, 1769, 1770, 1771, 1074, 1075, 1076, 1077, 1078, 1079, 1080, 1081, 1082, 1083, 1085, 1086, 1087, 1088, 376, 1089] (by decide +kernel)
set_option maxRecDepth 20000 in
theorem in_wsL_law0_r44 : ∀ w ∈ wsL_law0_r44, w ∈ lw_tbl := mem_pl wsL_law0_r44 [1090, 1092, 32, 1093, 216, 1094, 1096, 33, 1097, 355, 358, 212, 361, 364, 1098, 1099, 1100, 1101, 1102, 1108, 1103, 1104, 1105, 1106] (by decide +kernel)
set_option maxRecDepth 20000 in
theorem in_wsL_law0_r45 : ∀ w ∈ wsL_law0_r45, w ∈ lw_tbl := mem_pl wsL_law0_r45 [375, 392, 256, 260, 244, 272, 389, 214, 1107, 1109, 1110, 1111, 1112, 1113, 1114, 1116, 34, 1117, 309, 312, 315, 1118, 1119, 1121] (by decide +kernel)
set_option maxRecDepth 20000 in
theorem in_wsL_law0_r46 : ∀ w ∈ wsL_law0_r46, w ∈ lw_tbl := mem_pl wsL_law0_r46 [35, 1122, 265, 262, 277, 1123, 1125, 36, 1126, 223, 254, 250, 1127, 1128, 1129, 1130, 1131, 1132, 1134, 37, 1135, 270, 219, 1136] (by decide +kernel)
set_option maxRecDepth 20000 in
theorem in_wsL_law0_r47 : ∀ w ∈ wsL_law0_r47, w ∈ lw_tbl := mem_pl wsL_law0_r47 [1138, 38, 1139, 318, 321, 324, 327, 330, 1140, 1141, 1143, 39, 1144, 1145, 1146, 1147, 1148, 1149, 1150, 1772, 1773, 1774, 1775, 1776] (by decide +kernel)
set_option maxRecDepth 20000 in
theorem in_wsL_law0_r48 : ∀ w ∈ wsL_law0_r48, w ∈ lw_tbl := mem_pl wsL_law0_r48 [1777, 1778, 1779, 1325, 1780, 1781, 1783, 83, 1784, 1785, 1787, 84, 1788, 1789, 1791, 85, 1792, 1794, 1795, 1796, 1798, 86, 1799, 1800] (by decide +kernel)
set_option maxRecDepth 20000 in
theorem in_wsL_law0_r49 : ∀ w ∈ wsL_law0_r49, w ∈ lw_tbl := mem_pl wsL_law0_r49 [1802, 1803, 1804, 1805, 1807, 87, 1808, 1809, 1811, 88, 1812, 1813, 1815, 89, 1816, 1817, 1819, 90, 1820, 1151, 1152, 1153, 1154, 1155] (by decide +kernel)
set_option maxRecDepth 20000 in
theorem in_wsL_law0_r50 : ∀ w ∈ wsL_law0_r50, w ∈ lw_tbl := mem_pl wsL_law0_r50 [1156, 1157, 1159, 1161, 40, 1162, 1163, 1164, 1165, 1166, 1167, 1168, 1169, 1170, 353, 356, 359, 362, 1171, 1172, 1173, 1174, 1821, 1822] (by decide +kernel)
set_option maxRecDepth 20000 in
theorem in_wsL_law0_r51 : ∀ w ∈ wsL_law0_r51, w ∈ lw_tbl := mem_pl wsL_law0_r51 [1823, 1824, 1825, 1826, 1827, 1828, 1175, 1176, 1177, 1178, 1179, 1180, 1181, 1829, 1830, 1831, 1832, 1833, 1835, 91, 1836, 1182, 1183, 1184] (by decide +kernel)
set_option maxRecDepth 20000 in
theorem in_wsL_law0_r52 : ∀ w ∈ wsL_law0_r52, w ∈ lw_tbl := mem_pl wsL_law0_r52 [1185, 1186, 1187, 1188, 1837, 1838, 1839, 1840, 1189, 1190, 1191, 1192, 1193, 1194, 1195, 1841, 1842, 1843, 1844, 830, 831, 832, 833, 1845] (by decide +kernel)
set_option maxRecDepth 20000 in
theorem in_wsL_law0_r53 : ∀ w ∈ wsL_law0_r53, w ∈ lw_tbl := mem_pl wsL_law0_r53 [1846, 1847, 1848, 838, 839, 840, 841, 842, 843, 844, 931, 942, 951, 956, 1849, 1850, 1851, 1852, 1853, 1854] (by decide +kernel)
theorem in_wsX110 : ∀ w ∈ wsX110, w ∈ lw_tbl := by decide +kernel
theorem in_wsX140 : ∀ w ∈ wsX140, w ∈ lw_tbl := by decide +kernel
theorem in_wsX100 : ∀ w ∈ wsX100, w ∈ lw_tbl := by decide +kernel
theorem in_wsX70 : ∀ w ∈ wsX70, w ∈ lw_tbl := by decide +kernel
theorem in_wsX90 : ∀ w ∈ wsX90, w ∈ lw_tbl := by decide +kernel
theorem in_wsX30 : ∀ w ∈ wsX30, w ∈ lw_tbl := by decide +kernel
theorem in_wsX10 : ∀ w ∈ wsX10, w ∈ lw_tbl := by decide +kernel
theorem in_wsX50 : ∀ w ∈ wsX50, w ∈ lw_tbl := by decide +kernel
theorem in_wsX20 : ∀ w ∈ wsX20, w ∈ lw_tbl := by decide +kernel
theorem in_wsX130 : ∀ w ∈ wsX130, w ∈ lw_tbl := by decide +kernel
theorem in_wsX120 : ∀ w ∈ wsX120, w ∈ lw_tbl := by decide +kernel
theorem in_wsX60 : ∀ w ∈ wsX60, w ∈ lw_tbl := by decide +kernel
theorem in_wsX40 : ∀ w ∈ wsX40, w ∈ lw_tbl := by decide +kernel
theorem wsL_law_in0 : ∀ w ∈ wsL_law0, w ∈ lw_tbl := fun w h => (List.mem_append.mp h).elim (fun h => (List.mem_append.mp h).elim (fun h => (List.mem_append.mp h).elim (fun h => (List.mem_append.mp h).elim (fun h => (List.mem_append.mp h).elim (fun h => (List.mem_append.mp h).elim (fun h => (List.mem_append.mp h).elim (fun h => (List.mem_append.mp h).elim (fun h => (List.mem_append.mp h).elim (fun h => (List.mem_append.mp h).elim (fun h => (List.mem_append.mp h).elim (fun h => (List.mem_append.mp h).elim (fun h => (List.mem_append.mp h).elim (fun h => (List.mem_append.mp h).elim (fun h => (List.mem_append.mp h).elim (fun h => in_wsL_law0_r1 w h) (fun h => (List.mem_append.mp h).elim (fun h => in_wsL_law0_r2 w h) (fun h => (List.mem_append.mp h).elim (fun h => in_wsL_law0_r3 w h) (fun h => (List.mem_append.mp h).elim (fun h => in_wsL_law0_r4 w h) (fun h => (List.mem_append.mp h).elim (fun h => in_wsL_law0_r5 w h) (fun h => (List.mem_append.mp h).elim (fun h => in_wsL_law0_r6 w h) (fun h => (List.mem_append.mp h).elim (fun h => in_wsL_law0_r7 w h) (fun h => (List.mem_append.mp h).elim (fun h => in_wsL_law0_r8 w h) (fun h => (List.mem_append.mp h).elim (fun h => in_wsL_law0_r9 w h) (fun h => (List.mem_append.mp h).elim (fun h => in_wsL_law0_r10 w h) (fun h => (List.mem_append.mp h).elim (fun h => in_wsL_law0_r11 w h) (fun h => (List.mem_append.mp h).elim (fun h => in_wsL_law0_r12 w h) (fun h => (List.mem_append.mp h).elim (fun h => in_wsL_law0_r13 w h) (fun h => (List.mem_append.mp h).elim (fun h => in_wsL_law0_r14 w h) (fun h => (List.mem_append.mp h).elim (fun h => in_wsL_law0_r15 w h) (fun h => (List.mem_append.mp h).elim (fun h => in_wsL_law0_r16 w h) (fun h => (List.mem_append.mp h).elim (fun h => in_wsL_law0_r17 w h) (fun h => (List.mem_append.mp h).elim (fun h => in_wsL_law0_r18 w h) (fun h => (List.mem_append.mp h).elim (fun h => in_wsL_law0_r19 w h) (fun h => (List.mem_append.mp h).elim (fun h => in_wsL_law0_r20 w h) (fun h => (List.mem_append.mp h).elim (fun h => in_wsL_law0_r21 w h) (fun h => (List.mem_append.mp h).elim (fun h => in_wsL_law0_r22 w h) (fun h => (List.mem_append.mp h).elim (fun h => in_wsL_law0_r23 w h) (fun h => (List.mem_append.mp h).elim (fun h => in_wsL_law0_r24 w h) (fun h => (List.mem_append.mp h).elim (fun h => in_wsL_law0_r25 w h) (fun h => (List.mem_append.mp h).elim (fun h => in_wsL_law0_r26 w h) (fun h => (List.mem_append.mp h).elim (fun h => in_wsL_law0_r27 w h) (fun h => (List.mem_append.mp h).elim (fun h => in_wsL_law0_r28 w h) (fun h => (List.mem_append.mp h).elim (fun h => in_wsL_law0_r29 w h) (fun h => (List.mem_append.mp h).elim (fun h => in_wsL_law0_r30 w h) (fun h => (List.mem_append.mp h).elim (fun h => in_wsL_law0_r31 w h) (fun h => (List.mem_append.mp h).elim (fun h => in_wsL_law0_r32 w h) (fun h => (List.mem_append.mp h).elim (fun h => in_wsL_law0_r33 w h) (fun h => (List.mem_append.mp h).elim (fun h => in_wsL_law0_r34 w h) (fun h => (List.mem_append.mp h).elim (fun h => in_wsL_law0_r35 w h) (fun h => (List.mem_append.mp h).elim (fun h => in_wsL_law0_r36 w h) (fun h => (List.mem_append.mp h).elim (fun h => in_wsL_law0_r37 w h) (fun h => (List.mem_append.mp h).elim (fun h => in_wsL_law0_r38 w h) (fun h => (List.mem_append.mp h).elim (fun h => in_wsL_law0_r39 w h) (fun h => (List.mem_append.mp h).elim (fun h => in_wsL_law0_r40 w h) (fun h => (List.mem_append.mp h).elim (fun h => in_wsL_law0_r41 w h) (fun h => (List.mem_append.mp h).elim (fun h => in_wsL_law0_r42 w h) (fun h => (List.mem_append.mp h).elim (fun h => in_wsL_law0_r43 w h) (fun h => (List.mem_append.mp h).elim (fun h => in_wsL_law0_r44 w h) (fun h => (List.mem_append.mp h).elim (fun h => in_wsL_law0_r45 w h) (fun h => (List.mem_append.mp h).elim (fun h => in_wsL_law0_r46 w h) (fun h => (List.mem_append.mp h).elim (fun h => in_wsL_law0_r47 w h) (fun h => (List.mem_append.mp h).elim (fun h => in_wsL_law0_r48 w h) (fun h => (List.mem_append.mp h).elim (fun h => in_wsL_law0_r49 w h) (fun h => (List.mem_append.mp h).elim (fun h => in_wsL_law0_r50 w h) (fun h => (List.mem_append.mp h).elim (fun h => in_wsL_law0_r51 w h) (fun h => (List.mem_append.mp h).elim (fun h => in_wsL_law0_r52 w h) (fun h => in_wsL_law0_r53 w h))))))))))))))))))))))))))))))))))))))))))))))))))))) (fun h => in_wsX110 w h)) (fun h => in_wsX140 w h)) (fun h => in_wsX100 w h)) (fun h => in_wsX70 w h)) (fun h => in_wsX90 w h)) (fun h => in_wsX30 w h)) (fun h => in_wsX10 w h)) (fun h => in_wsX50 w h)) (fun h => in_wsX20 w h)) (fun h => in_wsX130 w h)) (fun h => in_wsX120 w h)) (fun h => in_wsX60 w h)) (fun h => in_wsX40 w h)) (fun h => absurd h List.not_mem_nil)
theorem wsL_law_x0 : ∀ w ∈ (vx_atS RX11 37 "java/lang/IllegalStateException" ["java/lang/RuntimeException", "java/lang/Exception"]).filter goodWord, w ∈ lw_tbl := by decide +kernel
theorem wsL_law_x1 : ∀ w ∈ (vx_atS RX11 48 "java/lang/IllegalArgumentException" ["java/lang/RuntimeException", "java/lang/Exception"]).filter goodWord, w ∈ lw_tbl := by decide +kernel
theorem wsL_law_x2 : ∀ w ∈ (vx_atS RX11 96 "java/lang/IndexOutOfBoundsException" ["java/lang/RuntimeException", "java/lang/Exception"]).filter goodWord, w ∈ lw_tbl := by decide +kernel
theorem wsL_law_in : ∀ w ∈ wsL_law, w ∈ lw_tbl := fun w h => (List.mem_append.mp h).elim (fun h => (List.mem_append.mp h).elim (fun h => (List.mem_append.mp h).elim (fun h => wsL_law_in0 w h) (fun h => wsL_law_x0 w h)) (fun h => wsL_law_x1 w h)) (fun h => wsL_law_x2 w h)
/-- the words that the methods with two handlers want beside -/
def wsL_xw : List Cond := [.codeWith yL_advise cL_advise 5 (some .int) [(0, 10, 13, 24), (0, 10, 17, 19)], .codeWith yL_foresee cL_foresee 5 (some .int) [(0, 10, 13, 19), (0, 10, 17, 24)], .codeWith yL_mend cL_mend 4 (some .int) [(0, 9, 12, 24), (0, 9, 15, 13)], .codeWith yL_pays cL_pays 5 (some .int) [(0, 10, 13, 24), (0, 10, 17, 19)], Cond.classLink RL 19 "java/lang/IllegalArgumentException", Cond.classLink RL 24 "java/lang/IndexOutOfBoundsException", Cond.classLink RL 13 "java/lang/IllegalStateException"]
theorem in_wsL_xw : ∀ w ∈ wsL_xw, w ∈ lw_tbl := mem_pl wsL_xw [1191, 1153, 1049, 1177, 1002, 1026, 974] (by decide +kernel)
def wsLL : List Cond := wsL_law ++ wsL_xw
theorem wsLL_in : ∀ w ∈ wsLL, w ∈ lw_tbl := fun w h => (List.mem_append.mp h).elim (fun h => wsL_law_in w h) (fun h => in_wsL_xw w h)
