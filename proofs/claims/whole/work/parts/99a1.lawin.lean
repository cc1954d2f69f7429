/-! The words of the law, chunk by chunk, each by its place -/
def wsL_law0 : List Cond := (wsL_law0_r1 ++ (wsL_law0_r2 ++ (wsL_law0_r3 ++ (wsL_law0_r4 ++ (wsL_law0_r5 ++ (wsL_law0_r6 ++ (wsL_law0_r7 ++ (wsL_law0_r8 ++ (wsL_law0_r9 ++ (wsL_law0_r10 ++ (wsL_law0_r11 ++ (wsL_law0_r12 ++ (wsL_law0_r13 ++ (wsL_law0_r14 ++ (wsL_law0_r15 ++ (wsL_law0_r16 ++ (wsL_law0_r17 ++ (wsL_law0_r18 ++ (wsL_law0_r19 ++ (wsL_law0_r20 ++ (wsL_law0_r21 ++ (wsL_law0_r22 ++ (wsL_law0_r23 ++ (wsL_law0_r24 ++ (wsL_law0_r25 ++ (wsL_law0_r26 ++ (wsL_law0_r27 ++ (wsL_law0_r28 ++ (wsL_law0_r29 ++ (wsL_law0_r30 ++ (wsL_law0_r31 ++ (wsL_law0_r32 ++ (wsL_law0_r33 ++ (wsL_law0_r34 ++ (wsL_law0_r35 ++ (wsL_law0_r36 ++ (wsL_law0_r37 ++ (wsL_law0_r38 ++ (wsL_law0_r39 ++ (wsL_law0_r40 ++ (wsL_law0_r41 ++ (wsL_law0_r42 ++ (wsL_law0_r43 ++ (wsL_law0_r44 ++ (wsL_law0_r45 ++ (wsL_law0_r46 ++ (wsL_law0_r47 ++ (wsL_law0_r48 ++ (wsL_law0_r49 ++ (wsL_law0_r50 ++ (wsL_law0_r51 ++ (wsL_law0_r52 ++ wsL_law0_r53)))))))))))))))))))))))))))))))))))))))))))))))))))) ++ wsX110 ++ wsX140 ++ wsX100 ++ wsX70 ++ wsX90 ++ wsX30 ++ wsX10 ++ wsX50 ++ wsX20 ++ wsX130 ++ wsX120 ++ wsX60 ++ wsX40 ++ ([] : List Cond)
def wsL_law : List Cond := wsL_law0 ++ (vx_atS RX11 37 "java/lang/IllegalStateException" ["java/lang/RuntimeException", "java/lang/Exception"]).filter goodWord ++ (vx_atS RX11 48 "java/lang/IllegalArgumentException" ["java/lang/RuntimeException", "java/lang/Exception"]).filter goodWord ++ (vx_atS RX11 96 "java/lang/IndexOutOfBoundsException" ["java/lang/RuntimeException", "java/lang/Exception"]).filter goodWord
theorem mem_pl {big : List Cond} (ws : List Cond) (ps : List Nat) (hp : ws = ps.filterMap (fun i => big[i]?)) : ∀ w ∈ ws, w ∈ big := fun w hw => by
  rw [hp] at hw
  obtain ⟨i, -, hi⟩ := List.mem_filterMap.mp hw
  exact List.mem_of_getElem? hi
set_option maxRecDepth 20000 in
theorem in_wsL_law0_r1 : ∀ w ∈ wsL_law0_r1, w ∈ lw_tbl := mem_pl wsL_law0_r1 [122, 123, 93, 1196, 1197, 103, 165, 124, 125, 126, 127, 128, 129, 130, 131, 94, 441, 166, 167, 97, 442, 443, 444, 132] (by decide +kernel)
set_option maxRecDepth 20000 in
theorem in_wsL_law0_r2 : ∀ w ∈ wsL_law0_r2, w ∈ lw_tbl := mem_pl wsL_law0_r2 [133, 134, 135, 163, 142, 136, 143, 164, 145, 147, 138, 168, 169, 170, 171, 377, 172, 388, 174, 391, 176, 394, 178, 395] (by decide +kernel)
set_option maxRecDepth 20000 in
theorem in_wsL_law0_r3 : ∀ w ∈ wsL_law0_r3, w ∈ lw_tbl := mem_pl wsL_law0_r3 [180, 181, 98, 397, 399, 401, 402, 204, 99, 403, 233, 100, 404, 301, 101, 405, 348, 102, 182, 183, 184, 185, 186, 192] (by decide +kernel)
set_option maxRecDepth 20000 in
theorem in_wsL_law0_r4 : ∀ w ∈ wsL_law0_r4, w ∈ lw_tbl := mem_pl wsL_law0_r4 [193, 194, 187, 206, 207, 208, 220, 235, 236, 237, 263, 275, 303, 304, 305, 306, 319, 350, 351, 352, 1198, 1199, 1200, 1201] (by decide +kernel)
set_option maxRecDepth 20000 in
theorem in_wsL_law0_r5 : ∀ w ∈ wsL_law0_r5, w ∈ lw_tbl := mem_pl wsL_law0_r5 [1412, 1414, 1415, 1416, 1417, 1418, 1419, 1202, 1203, 104, 1422, 1424, 1319, 1320, 105, 1425, 1426, 1205, 1206, 1207, 1210, 1213, 1219, 1222] (by decide +kernel)
set_option maxRecDepth 20000 in
theorem in_wsL_law0_r6 : ∀ w ∈ wsL_law0_r6, w ∈ lw_tbl := mem_pl wsL_law0_r6 [1225, 1230, 1233, 1238, 1241, 1244, 1249, 1252, 1255, 1258, 1261, 1265, 1322, 1323, 1358, 1324, 1327, 1329, 1331, 1333, 1335, 1337, 1339, 1341] (by decide +kernel)
set_option maxRecDepth 20000 in
theorem in_wsL_law0_r7 : ∀ w ∈ wsL_law0_r7, w ∈ lw_tbl := mem_pl wsL_law0_r7 [1343, 1345, 1347, 1349, 1351, 1353, 1355, 1356, 1357, 1398, 1399, 1400, 1401, 1409, 1402, 1404, 41, 1405, 1406, 1408, 1407, 106, 971, 972] (by decide +kernel)
set_option maxRecDepth 20000 in
theorem in_wsL_law0_r8 : ∀ w ∈ wsL_law0_r8, w ∈ lw_tbl := mem_pl wsL_law0_r8 [92, 973, 974, 975, 976, 977, 978, 979, 110, 140, 995, 996, 997, 998, 141, 1462, 1463, 1464, 1465, 1411, 1413, 1466, 1468, 42] (by decide +kernel)
set_option maxRecDepth 20000 in
theorem in_wsL_law0_r9 : ∀ w ∈ wsL_law0_r9, w ∈ lw_tbl := mem_pl wsL_law0_r9 [1469, 1458, 1459, 1460, 1461, 999, 1000, 1001, 1002, 1003, 1004, 1005, 1006, 1007, 111, 1470, 1471, 1472, 1473, 1474, 1475, 1476, 454, 455] (by decide +kernel)
set_option maxRecDepth 20000 in
theorem in_wsL_law0_r10 : ∀ w ∈ wsL_law0_r10, w ∈ lw_tbl := mem_pl wsL_law0_r10 [456, 457, 559, 560, 116, 582, 374, 378, 458, 459, 460, 461, 149, 487, 462, 464, 0, 465, 466, 468, 1, 469, 470, 472] (by decide +kernel)
set_option maxRecDepth 20000 in
theorem in_wsL_law0_r11 : ∀ w ∈ wsL_law0_r11, w ∈ lw_tbl := mem_pl wsL_law0_r11 [2, 473, 474, 476, 3, 477, 478, 480, 4, 481, 486, 489, 482, 484, 5, 485, 491, 493, 6, 494, 1856, 497, 499, 7] (by decide +kernel)
set_option maxRecDepth 20000 in
theorem in_wsL_law0_r12 : ∀ w ∈ wsL_law0_r12, w ∈ lw_tbl := mem_pl wsL_law0_r12 [500, 501, 502, 503, 112, 504, 1857, 505, 506, 507, 508, 509, 1858, 511, 512, 513, 514, 515, 516, 517, 518, 519, 520, 113] (by decide +kernel)
set_option maxRecDepth 20000 in
theorem in_wsL_law0_r13 : ∀ w ∈ wsL_law0_r13, w ∈ lw_tbl := mem_pl wsL_law0_r13 [521, 522, 523, 524, 525, 527, 528, 114, 529, 530, 531, 115, 532, 533, 534, 535, 536, 537, 538, 539, 540, 541, 542, 543] (by decide +kernel)
set_option maxRecDepth 20000 in
theorem in_wsL_law0_r14 : ∀ w ∈ wsL_law0_r14, w ∈ lw_tbl := mem_pl wsL_law0_r14 [545, 547, 549, 551, 8, 552, 553, 554, 555, 557, 9, 558, 561, 562, 563, 564, 581, 565, 566, 117, 585, 586, 587, 583] (by decide +kernel)
set_option maxRecDepth 20000 in
theorem in_wsL_law0_r15 : ∀ w ∈ wsL_law0_r15, w ∈ lw_tbl := mem_pl wsL_law0_r15 [584, 567, 568, 569, 570, 571, 572, 118, 573, 574, 610, 611, 612, 613, 622, 623, 815, 589, 146, 588, 614, 615, 616, 617] (by decide +kernel)
set_option maxRecDepth 20000 in
theorem in_wsL_law0_r16 : ∀ w ∈ wsL_law0_r16, w ∈ lw_tbl := mem_pl wsL_law0_r16 [379, 381, 383, 386, 190, 618, 620, 10, 621, 144, 625, 626, 628, 629, 95, 630, 1859, 631, 633, 11, 634, 635, 669, 590] (by decide +kernel)
set_option maxRecDepth 20000 in
theorem in_wsL_law0_r17 : ∀ w ∈ wsL_law0_r17, w ∈ lw_tbl := mem_pl wsL_law0_r17 [210, 676, 682, 637, 639, 12, 640, 641, 643, 13, 644, 645, 148, 646, 647, 648, 649, 575, 650, 652, 14, 653, 654, 655] (by decide +kernel)
set_option maxRecDepth 20000 in
theorem in_wsL_law0_r18 : ∀ w ∈ wsL_law0_r18, w ∈ lw_tbl := mem_pl wsL_law0_r18 [656, 657, 658, 659, 660, 661, 662, 663, 664, 665, 666, 667, 668, 209, 213, 217, 671, 673, 15, 674, 675, 678, 680, 16] (by decide +kernel)
set_option maxRecDepth 20000 in
theorem in_wsL_law0_r19 : ∀ w ∈ wsL_law0_r19, w ∈ lw_tbl := mem_pl wsL_law0_r19 [681, 221, 684, 686, 17, 687, 688, 698, 239, 243, 700, 248, 702, 252, 690, 691, 692, 693, 694, 695, 696, 697, 238, 242] (by decide +kernel)
set_option maxRecDepth 20000 in
theorem in_wsL_law0_r20 : ∀ w ∈ wsL_law0_r20, w ∈ lw_tbl := mem_pl wsL_law0_r20 [247, 251, 255, 259, 266, 268, 271, 704, 706, 18, 707, 384, 712, 354, 718, 357, 398, 191, 360, 720, 363, 708, 709, 710] (by decide +kernel)
set_option maxRecDepth 20000 in
theorem in_wsL_law0_r21 : ∀ w ∈ wsL_law0_r21, w ∈ lw_tbl := mem_pl wsL_law0_r21 [711, 714, 716, 19, 717, 722, 724, 20, 725, 779, 726, 728, 21, 736, 737, 738, 739, 189, 729, 777, 730, 732, 22, 733] (by decide +kernel)
set_option maxRecDepth 20000 in
theorem in_wsL_law0_r22 : ∀ w ∈ wsL_law0_r22, w ∈ lw_tbl := mem_pl wsL_law0_r22 [734, 740, 742, 744, 746, 748, 23, 749, 771, 761, 750, 752, 24, 753, 767, 769, 754, 756, 25, 757, 758, 759, 763, 765] (by decide +kernel)
set_option maxRecDepth 20000 in
theorem in_wsL_law0_r23 : ∀ w ∈ wsL_law0_r23, w ∈ lw_tbl := mem_pl wsL_law0_r23 [773, 775, 26, 776, 781, 783, 27, 784, 785, 795, 809, 811, 307, 311, 813, 314, 787, 788, 789, 790, 791, 792, 793, 794] (by decide +kernel)
set_option maxRecDepth 20000 in
theorem in_wsL_law0_r24 : ∀ w ∈ wsL_law0_r24, w ∈ lw_tbl := mem_pl wsL_law0_r24 [310, 313, 316, 322, 325, 328, 797, 799, 28, 800, 801, 802, 803, 804, 805, 806, 807, 808, 1477, 1478, 1479, 1480, 1481, 1483] (by decide +kernel)
set_option maxRecDepth 20000 in
theorem in_wsL_law0_r25 : ∀ w ∈ wsL_law0_r25, w ∈ lw_tbl := mem_pl wsL_law0_r25 [43, 1484, 1420, 1421, 1485, 1487, 44, 1488, 1489, 1491, 45, 1492, 1493, 1495, 46, 1496, 1497, 1498, 1499, 1500, 1501, 1502, 1503, 1505] (by decide +kernel)
set_option maxRecDepth 20000 in
theorem in_wsL_law0_r26 : ∀ w ∈ wsL_law0_r26, w ∈ lw_tbl := mem_pl wsL_law0_r26 [47, 1506, 1507, 1509, 1510, 1512, 1513, 1514, 1515, 1516, 1517, 1518, 1519, 1520, 1521, 1522, 1523, 1527, 1528, 1524, 1525, 1526, 1529, 1530] (by decide +kernel)
