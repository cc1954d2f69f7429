/-! The words of the law stand in the tables (written by law99h.py) -/
def lw_s6 : List Cond := [Cond.selects RJ4 ⟨"java/lang/AbstractStringBuilder", "appendNull", "()Ljava/lang/AbstractStringBuilder;"⟩ yJ5_appendNull_278bc, Cond.selects RJ4 ⟨"java/lang/AbstractStringBuilder", "ensureCapacityInternal", "(I)V"⟩ yJ5_ensureCapacityInternal_d00df, Cond.selects RJ4 ⟨"java/lang/AbstractStringBuilder", "newCapacity", "(I)I"⟩ yJ5_newCapacity_0f7a4, Cond.selects RJ4 ⟨"java/lang/AbstractStringBuilder", "putStringAt", "(ILjava/lang/String;)V"⟩ yJ5_putStringAt_47b60, Cond.selects RJ4 ⟨"java/lang/AbstractStringBuilder", "inflateIfNeededFor", "(Ljava/lang/String;)V"⟩ yJ5_inflateIfNeededFor_a7421, Cond.selects RJ4 ⟨"java/lang/AbstractStringBuilder", "inflate", "()V"⟩ yJ5_inflate_da8c8]
def lw_tb2 : List Cond := lw_s6 ++ lw_tbl
/-- a private method that a class inherits -/
theorem sel_sub {C : String} {y : MethodName} {s : State} {args : Array Value} {n : Nat} (hy : y.cls ≠ "java/lang/invoke/MethodHandle" ∧ y.cls ≠ "java/lang/invoke/VarHandle") (hins : (Cond.instantiable C n).before args s = true) (hpriv : (Cond.privateMethod y).before args s = true) (hinst : (Cond.instanceMethod y).before args s = true) (hsame : (Cond.sameMethod y.cls y.cls y.name y.desc).before args s = true) : (Cond.selects C y y).before args s = true := by
  obtain ⟨c, k, hc, hk, -, hniab, -, -⟩ := Cond.instantiable_spec hins
  obtain ⟨mk, methM, hnamed, hmethM, -, -⟩ := Cond.instanceMethod_spec hinst
  have hfound : s.methodFound? y.cls y.name y.desc = some mk := State.methodFound?_of_named hnamed hy
  obtain ⟨cn, ck, r1, hcn, hck, hni, hf, hn1⟩ := Cond.sameMethod_found hsame
  have hcls : mk.cls = cn := Option.some.inj ((findClass_of_methodNamed hnamed).symm.trans hcn)
  have hsel : selectMethod {} s.vm c mk = .method mk := selectMethod_private hmethM (Cond.privateMethod_at hpriv mk methM hnamed hmethM)
  simp only [Cond.before, Cond.holds, Cond.value, hc, hfound, hnamed, hsel, hcls, hck]
  simp; exact hni
theorem tb2_ok {s : State} {args : Array Value} (hts : ∀ w ∈ lw_tbl, w.before args s = true) : ∀ w ∈ lw_tb2, w.before args s = true := fun w hw => by
  rcases List.mem_append.mp hw with h | h
  · have hi := hts (Cond.instantiable "java/lang/StringBuilder" 4) (List.mem_of_getElem? (i := 1322) (by decide +kernel))
    rcases List.mem_cons.mp h with h | h
    · rw [h]; exact sel_sub (C := "java/lang/StringBuilder") (y := ⟨"java/lang/AbstractStringBuilder", "appendNull", "()Ljava/lang/AbstractStringBuilder;"⟩) ⟨by decide +kernel, by decide +kernel⟩ hi (hts _ (List.mem_of_getElem? (i := 1184) (by decide +kernel))) (hts _ (List.mem_of_getElem? (i := 1185) (by decide +kernel))) (hts _ (List.mem_of_getElem? (i := 1441) (by decide +kernel)))
    rcases List.mem_cons.mp h with h | h
    · rw [h]; exact sel_sub (C := "java/lang/StringBuilder") (y := ⟨"java/lang/AbstractStringBuilder", "ensureCapacityInternal", "(I)V"⟩) ⟨by decide +kernel, by decide +kernel⟩ hi (hts _ (List.mem_of_getElem? (i := 1188) (by decide +kernel))) (hts _ (List.mem_of_getElem? (i := 1189) (by decide +kernel))) (hts _ (List.mem_of_getElem? (i := 1442) (by decide +kernel)))
    rcases List.mem_cons.mp h with h | h
    · rw [h]; exact sel_sub (C := "java/lang/StringBuilder") (y := ⟨"java/lang/AbstractStringBuilder", "newCapacity", "(I)I"⟩) ⟨by decide +kernel, by decide +kernel⟩ hi (hts _ (List.mem_of_getElem? (i := 1192) (by decide +kernel))) (hts _ (List.mem_of_getElem? (i := 1193) (by decide +kernel))) (hts _ (List.mem_of_getElem? (i := 1443) (by decide +kernel)))
    rcases List.mem_cons.mp h with h | h
    · rw [h]; exact sel_sub (C := "java/lang/StringBuilder") (y := ⟨"java/lang/AbstractStringBuilder", "putStringAt", "(ILjava/lang/String;)V"⟩) ⟨by decide +kernel, by decide +kernel⟩ hi (hts _ (List.mem_of_getElem? (i := 1241) (by decide +kernel))) (hts _ (List.mem_of_getElem? (i := 1242) (by decide +kernel))) (hts _ (List.mem_of_getElem? (i := 1444) (by decide +kernel)))
    rcases List.mem_cons.mp h with h | h
    · rw [h]; exact sel_sub (C := "java/lang/StringBuilder") (y := ⟨"java/lang/AbstractStringBuilder", "inflateIfNeededFor", "(Ljava/lang/String;)V"⟩) ⟨by decide +kernel, by decide +kernel⟩ hi (hts _ (List.mem_of_getElem? (i := 1245) (by decide +kernel))) (hts _ (List.mem_of_getElem? (i := 1246) (by decide +kernel))) (hts _ (List.mem_of_getElem? (i := 1445) (by decide +kernel)))
    rcases List.mem_cons.mp h with h | h
    · rw [h]; exact sel_sub (C := "java/lang/StringBuilder") (y := ⟨"java/lang/AbstractStringBuilder", "inflate", "()V"⟩) ⟨by decide +kernel, by decide +kernel⟩ hi (hts _ (List.mem_of_getElem? (i := 1250) (by decide +kernel))) (hts _ (List.mem_of_getElem? (i := 1251) (by decide +kernel))) (hts _ (List.mem_of_getElem? (i := 1446) (by decide +kernel)))
    cases h
  · exact hts w h
set_option maxRecDepth 20000 in
theorem in_wsL_law0_r1 : ∀ w ∈ wsL_law0_r1, w ∈ lw_tb2 := mem_pl wsL_law0_r1 [1327, 1328, 49, 79, 80, 60, 1444, 121, 1179, 1126, 1122, 1121, 1329, 1330, 1331, 1332, 1333, 48, 1334, 1335, 85, 86, 1229, 120] (by decide +kernel)
set_option maxRecDepth 20000 in
theorem in_wsL_law0_r3 : ∀ w ∈ wsL_law0_r3, w ∈ lw_tb2 := mem_pl wsL_law0_r3 [1109, 1110, 1111, 1116, 1118, 1120, 1123, 1113, 1125, 1128, 1129, 1130, 1131, 1132, 1133, 1134, 1135, 1136, 1137, 728, 729, 730, 731, 724] (by decide +kernel)
set_option maxRecDepth 20000 in
theorem in_wsL_law0_r4 : ∀ w ∈ wsL_law0_r4, w ∈ lw_tb2 := mem_pl wsL_law0_r4 [725, 726, 727, 1181, 1182, 1183, 1184, 1185, 1446, 1186, 1187, 1188, 1339, 1189, 1447, 0, 1191, 1192, 1193, 1448, 1, 1195, 1196, 1197] (by decide +kernel)
set_option maxRecDepth 20000 in
theorem in_wsL_law0_r5 : ∀ w ∈ wsL_law0_r5, w ∈ lw_tb2 := mem_pl wsL_law0_r5 [1449, 2, 1199, 1200, 1209, 1201, 1202, 53, 1203, 1204, 567, 54, 568, 1205, 1206, 1207, 1208, 1210, 1211, 55, 1212, 1213, 1214, 1215] (by decide +kernel)
set_option maxRecDepth 20000 in
theorem in_wsL_law0_r6 : ∀ w ∈ wsL_law0_r6, w ∈ lw_tb2 := mem_pl wsL_law0_r6 [1216, 1217, 1219, 1220, 564, 565, 1221, 1223, 1222, 56, 1224, 1226, 1227, 1225, 1228, 1230, 1231, 1232, 782, 1233, 1234, 1235, 775, 776] (by decide +kernel)
set_option maxRecDepth 20000 in
theorem in_wsL_law0_r7 : ∀ w ∈ wsL_law0_r7, w ∈ lw_tb2 := mem_pl wsL_law0_r7 [777, 1236, 1237, 50, 1238, 764, 1239, 1240, 57, 1241, 1242, 1243, 1244, 784, 786, 1245, 741, 742, 743, 1395, 744, 745, 746, 747] (by decide +kernel)
set_option maxRecDepth 20000 in
theorem in_wsL_law0_r8 : ∀ w ∈ wsL_law0_r8, w ∈ lw_tb2 := mem_pl wsL_law0_r8 [748, 1396, 1246, 1450, 3, 1248, 1249, 1250, 1451, 4, 1252, 1253, 1254, 1255, 1452, 5, 1257, 1258, 1266, 1267, 58, 1268, 1269, 1270] (by decide +kernel)
set_option maxRecDepth 20000 in
theorem in_wsL_law0_r9 : ∀ w ∈ wsL_law0_r9, w ∈ lw_tb2 := mem_pl wsL_law0_r9 [1271, 1272, 1273, 1274, 1275, 1276, 1277, 1278, 1279, 1280, 1281, 1282, 1283, 1284, 1285, 1286, 1287, 1288, 1289, 1290, 1291, 1453, 1292, 1293] (by decide +kernel)
set_option maxRecDepth 20000 in
theorem in_wsL_law0_r10 : ∀ w ∈ wsL_law0_r10, w ∈ lw_tb2 := mem_pl wsL_law0_r10 [1294, 1295, 59, 1296, 1297, 1298, 1299, 1300, 1302, 1304, 1305, 1306, 1307, 1308, 1309, 1310, 1311, 1324, 1325, 1326, 1349, 1350, 1351, 1352] (by decide +kernel)
set_option maxRecDepth 20000 in
theorem in_wsL_law0_r11 : ∀ w ∈ wsL_law0_r11, w ∈ lw_tb2 := mem_pl wsL_law0_r11 [1353, 1354, 1355, 1356, 1357, 1358, 1359, 1360, 1361, 1338, 1362, 1364, 1365, 1363, 1366, 1367, 1369, 1368, 1370, 1371, 1372, 1373, 1368, 1374] (by decide +kernel)
set_option maxRecDepth 20000 in
theorem in_wsL_law0_r12 : ∀ w ∈ wsL_law0_r12, w ∈ lw_tb2 := mem_pl wsL_law0_r12 [1375, 1376, 1377, 1378, 1379, 1380, 1381, 1382, 1383, 1384, 1385, 1386, 1387, 1388, 1389, 1390, 779, 780, 781, 1391, 1392, 1393, 1394, 1433] (by decide +kernel)
set_option maxRecDepth 20000 in
theorem in_wsL_law0_r13 : ∀ w ∈ wsL_law0_r13, w ∈ lw_tb2 := mem_pl wsL_law0_r13 [1434, 1435, 81, 82, 83, 84, 87, 88, 61, 398, 123, 124, 64, 399, 400, 401, 89, 90, 91, 92, 99, 93, 100, 102] (by decide +kernel)
set_option maxRecDepth 20000 in
theorem in_wsL_law0_r14 : ∀ w ∈ wsL_law0_r14, w ∈ lw_tb2 := mem_pl wsL_law0_r14 [122, 104, 95, 125, 126, 127, 128, 334, 129, 345, 131, 348, 133, 351, 135, 352, 137, 138, 65, 354, 356, 358, 359, 161] (by decide +kernel)
set_option maxRecDepth 20000 in
theorem in_wsL_law0_r15 : ∀ w ∈ wsL_law0_r15, w ∈ lw_tb2 := mem_pl wsL_law0_r15 [66, 360, 190, 67, 361, 258, 68, 362, 305, 69, 139, 140, 141, 142, 143, 149, 150, 151, 144, 163, 164, 165, 177, 192] (by decide +kernel)
set_option maxRecDepth 20000 in
theorem in_wsL_law0_r16 : ∀ w ∈ wsL_law0_r16, w ∈ lw_tb2 := mem_pl wsL_law0_r16 [193, 194, 220, 232, 260, 261, 262, 263, 276, 307, 308, 309, 732, 733, 734, 735, 736, 737, 738, 576, 73, 97, 740, 750] (by decide +kernel)
set_option maxRecDepth 20000 in
theorem in_wsL_law0_r17 : ∀ w ∈ wsL_law0_r17, w ∈ lw_tb2 := mem_pl wsL_law0_r17 [751, 752, 753, 754, 755, 756, 757, 758, 759, 760, 761, 762, 763, 766, 767, 768, 769, 770, 771, 772, 773, 774, 778, 788] (by decide +kernel)
set_option maxRecDepth 20000 in
theorem in_wsL_law0_r18 : ∀ w ∈ wsL_law0_r18, w ∈ lw_tb2 := mem_pl wsL_law0_r18 [789, 790, 791, 792, 74, 808, 809, 810, 811, 98, 812, 813, 814, 815, 871, 872, 75, 892, 331, 335, 816, 817, 818, 819] (by decide +kernel)
set_option maxRecDepth 20000 in
theorem in_wsL_law0_r19 : ∀ w ∈ wsL_law0_r19, w ∈ lw_tb2 := mem_pl wsL_law0_r19 [106, 845, 820, 822, 18, 823, 824, 826, 19, 827, 828, 830, 20, 831, 832, 834, 21, 835, 836, 838, 22, 839, 844, 847] (by decide +kernel)
set_option maxRecDepth 20000 in
theorem in_wsL_law0_r20 : ∀ w ∈ wsL_law0_r20, w ∈ lw_tb2 := mem_pl wsL_law0_r20 [840, 842, 23, 843, 849, 851, 24, 852, 1454, 855, 857, 25, 858, 859, 860, 861, 863, 26, 864, 865, 866, 867, 869, 27] (by decide +kernel)
set_option maxRecDepth 20000 in
theorem in_wsL_law0_r21 : ∀ w ∈ wsL_law0_r21, w ∈ lw_tb2 := mem_pl wsL_law0_r21 [870, 873, 874, 875, 876, 891, 877, 878, 76, 895, 896, 897, 893, 894, 879, 880, 881, 882, 883, 884, 920, 921, 922, 923] (by decide +kernel)
set_option maxRecDepth 20000 in
theorem in_wsL_law0_r22 : ∀ w ∈ wsL_law0_r22, w ∈ lw_tb2 := mem_pl wsL_law0_r22 [932, 933, 1100, 899, 103, 898, 924, 925, 926, 927, 336, 338, 340, 343, 147, 928, 930, 28, 931, 101, 934, 612, 614, 615] (by decide +kernel)
set_option maxRecDepth 20000 in
theorem in_wsL_law0_r23 : ∀ w ∈ wsL_law0_r23, w ∈ lw_tb2 := mem_pl wsL_law0_r23 [62, 616, 1455, 935, 937, 29, 938, 939, 966, 900, 167, 973, 979, 941, 943, 30, 944, 945, 947, 31, 948, 949, 105, 950] (by decide +kernel)
set_option maxRecDepth 20000 in
theorem in_wsL_law0_r24 : ∀ w ∈ wsL_law0_r24, w ∈ lw_tb2 := mem_pl wsL_law0_r24 [951, 952, 953, 885, 954, 956, 32, 957, 958, 959, 960, 961, 962, 963, 964, 965, 563, 681, 682, 683, 684, 166, 170, 174] (by decide +kernel)
set_option maxRecDepth 20000 in
theorem in_wsL_law0_r25 : ∀ w ∈ wsL_law0_r25, w ∈ lw_tb2 := mem_pl wsL_law0_r25 [968, 970, 33, 971, 972, 975, 977, 34, 978, 178, 981, 983, 35, 984, 985, 991, 196, 200, 993, 205, 995, 209, 987, 988] (by decide +kernel)
set_option maxRecDepth 20000 in
theorem in_wsL_law0_r26 : ∀ w ∈ wsL_law0_r26, w ∈ lw_tb2 := mem_pl wsL_law0_r26 [989, 990, 685, 686, 687, 688, 195, 199, 204, 208, 212, 216, 223, 225, 228, 997, 999, 36, 1000, 341, 1005, 311, 1011, 314] (by decide +kernel)
set_option maxRecDepth 20000 in
theorem in_wsL_law0_r27 : ∀ w ∈ wsL_law0_r27, w ∈ lw_tb2 := mem_pl wsL_law0_r27 [355, 148, 317, 1013, 320, 1001, 1002, 1003, 1004, 1007, 1009, 37, 1010, 1015, 1017, 38, 1018, 1071, 1019, 1021, 39, 1028, 1029, 1030] (by decide +kernel)
set_option maxRecDepth 20000 in
theorem in_wsL_law0_r28 : ∀ w ∈ wsL_law0_r28, w ∈ lw_tb2 := mem_pl wsL_law0_r28 [1031, 146, 1022, 1069, 1023, 1025, 40, 1026, 1027, 1032, 1034, 1036, 1038, 1040, 41, 1041, 1063, 1053, 1042, 1044, 42, 1045, 1059, 1061] (by decide +kernel)
set_option maxRecDepth 20000 in
theorem in_wsL_law0_r29 : ∀ w ∈ wsL_law0_r29, w ∈ lw_tb2 := mem_pl wsL_law0_r29 [1046, 1048, 43, 1049, 1050, 1051, 1055, 1057, 1065, 1067, 44, 1068, 1073, 1075, 45, 1076, 1077, 1083, 1094, 1096, 264, 268, 1098, 271] (by decide +kernel)
set_option maxRecDepth 20000 in
theorem in_wsL_law0_r30 : ∀ w ∈ wsL_law0_r30, w ∈ lw_tb2 := mem_pl wsL_law0_r30 [1079, 1080, 1081, 1082, 693, 694, 695, 696, 267, 270, 273, 279, 282, 285, 1085, 1087, 46, 1088, 1089, 633, 634, 635, 1090, 1091] (by decide +kernel)
set_option maxRecDepth 20000 in
theorem in_wsL_law0_r31 : ∀ w ∈ wsL_law0_r31, w ∈ lw_tb2 := mem_pl wsL_law0_r31 [1092, 1093, 411, 412, 413, 414, 435, 78, 337, 339, 342, 344, 415, 416, 417, 418, 419, 420, 421, 422, 423, 424, 425, 426] (by decide +kernel)
set_option maxRecDepth 20000 in
theorem in_wsL_law0_r32 : ∀ w ∈ wsL_law0_r32, w ∈ lw_tb2 := mem_pl wsL_law0_r32 [215, 427, 428, 429, 430, 203, 198, 431, 432, 433, 434, 231, 513, 514, 515, 516, 350, 202, 197, 206, 210, 214, 218, 221] (by decide +kernel)
set_option maxRecDepth 20000 in
theorem in_wsL_law0_r33 : ∀ w ∈ wsL_law0_r33, w ∈ lw_tb2 := mem_pl wsL_law0_r33 [224, 230, 226, 517, 519, 8, 520, 533, 534, 535, 536, 502, 503, 504, 505, 347, 179, 168, 172, 175, 506, 508, 7, 509] (by decide +kernel)
set_option maxRecDepth 20000 in
theorem in_wsL_law0_r34 : ∀ w ∈ wsL_law0_r34, w ∈ lw_tb2 := mem_pl wsL_law0_r34 [511, 523, 524, 525, 526, 353, 265, 274, 277, 280, 283, 286, 528, 529, 530, 531, 537, 538, 539, 540, 357, 542, 543, 544] (by decide +kernel)
set_option maxRecDepth 20000 in
theorem in_wsL_law0_r35 : ∀ w ∈ wsL_law0_r35, w ∈ lw_tb2 := mem_pl wsL_law0_r35 [545, 546, 713, 714, 715, 716, 717, 718, 719, 720, 721, 548, 549, 550, 233, 722, 723, 668, 669, 670, 671, 573, 574, 575] (by decide +kernel)
set_option maxRecDepth 20000 in
theorem in_wsL_law0_r36 : ∀ w ∈ wsL_law0_r36, w ∈ lw_tb2 := mem_pl wsL_law0_r36 [673, 675, 17, 676, 677, 678, 679, 680, 333, 689, 690, 691, 692, 310, 313, 316, 319, 697, 698, 699, 700, 592, 593, 594] (by decide +kernel)
set_option maxRecDepth 20000 in
theorem in_wsL_law0_r37 : ∀ w ∈ wsL_law0_r37, w ∈ lw_tb2 := mem_pl wsL_law0_r37 [595, 596, 597, 599, 9, 600, 173, 601, 603, 10, 604, 312, 315, 169, 318, 321, 605, 606, 607, 608, 609, 621, 611, 617] (by decide +kernel)
set_option maxRecDepth 20000 in
theorem in_wsL_law0_r38 : ∀ w ∈ wsL_law0_r38, w ∈ lw_tb2 := mem_pl wsL_law0_r38 [618, 619, 332, 349, 213, 217, 201, 229, 346, 171, 620, 623, 624, 625, 626, 627, 628, 630, 11, 631, 266, 269, 272, 632] (by decide +kernel)
set_option maxRecDepth 20000 in
theorem in_wsL_law0_r39 : ∀ w ∈ wsL_law0_r39, w ∈ lw_tb2 := mem_pl wsL_law0_r39 [636, 638, 12, 639, 222, 219, 234, 640, 642, 13, 643, 180, 211, 207, 644, 645, 646, 647, 648, 649, 651, 14, 652, 227] (by decide +kernel)
set_option maxRecDepth 20000 in
theorem in_wsL_law0_r40 : ∀ w ∈ wsL_law0_r40, w ∈ lw_tb2 := mem_pl wsL_law0_r40 [176, 653, 655, 15, 656, 275, 278, 281, 284, 287, 657, 658, 660, 16, 661, 662, 663, 664, 665, 666, 667, 559, 560, 561] (by decide +kernel)
set_option maxRecDepth 20000 in
theorem in_wsL_law0_r41 : ∀ w ∈ wsL_law0_r41, w ∈ lw_tb2 := mem_pl wsL_law0_r41 [562, 566, 705, 706, 707, 708, 701, 702, 703, 704, 709, 710, 711, 712, 551, 552, 553, 554, 569, 570, 571, 572, 555, 556] (by decide +kernel)
set_option maxRecDepth 20000 in
theorem in_wsL_law0_r42 : ∀ w ∈ wsL_law0_r42, w ∈ lw_tb2 := mem_pl wsL_law0_r42 [557, 558, 547] (by decide +kernel)
theorem in_wsJ40 : ∀ w ∈ wsJ40, w ∈ lw_tb2 := fun w h => List.mem_append_right _ ((by decide +kernel : ∀ w ∈ wsJ40, w ∈ lw_tbl) w h)
theorem in_wsX110 : ∀ w ∈ wsX110, w ∈ lw_tb2 := fun w h => List.mem_append_right _ ((by decide +kernel : ∀ w ∈ wsX110, w ∈ lw_tbl) w h)
theorem in_wsX120 : ∀ w ∈ wsX120, w ∈ lw_tb2 := fun w h => List.mem_append_right _ ((by decide +kernel : ∀ w ∈ wsX120, w ∈ lw_tbl) w h)
theorem in_wsJ00 : ∀ w ∈ wsJ00, w ∈ lw_tb2 := fun w h => List.mem_append_right _ ((by decide +kernel : ∀ w ∈ wsJ00, w ∈ lw_tbl) w h)
theorem in_wsX100 : ∀ w ∈ wsX100, w ∈ lw_tb2 := fun w h => List.mem_append_right _ ((by decide +kernel : ∀ w ∈ wsX100, w ∈ lw_tbl) w h)
theorem in_wsX70 : ∀ w ∈ wsX70, w ∈ lw_tb2 := fun w h => List.mem_append_right _ ((by decide +kernel : ∀ w ∈ wsX70, w ∈ lw_tbl) w h)
theorem in_wsX90 : ∀ w ∈ wsX90, w ∈ lw_tb2 := fun w h => List.mem_append_right _ ((by decide +kernel : ∀ w ∈ wsX90, w ∈ lw_tbl) w h)
theorem in_wsX30 : ∀ w ∈ wsX30, w ∈ lw_tb2 := fun w h => List.mem_append_right _ ((by decide +kernel : ∀ w ∈ wsX30, w ∈ lw_tbl) w h)
theorem in_wsX10 : ∀ w ∈ wsX10, w ∈ lw_tb2 := fun w h => List.mem_append_right _ ((by decide +kernel : ∀ w ∈ wsX10, w ∈ lw_tbl) w h)
theorem in_wsX50 : ∀ w ∈ wsX50, w ∈ lw_tb2 := fun w h => List.mem_append_right _ ((by decide +kernel : ∀ w ∈ wsX50, w ∈ lw_tbl) w h)
theorem in_wsX20 : ∀ w ∈ wsX20, w ∈ lw_tb2 := fun w h => List.mem_append_right _ ((by decide +kernel : ∀ w ∈ wsX20, w ∈ lw_tbl) w h)
theorem in_wsX60 : ∀ w ∈ wsX60, w ∈ lw_tb2 := fun w h => List.mem_append_right _ ((by decide +kernel : ∀ w ∈ wsX60, w ∈ lw_tbl) w h)
theorem in_wsX40 : ∀ w ∈ wsX40, w ∈ lw_tb2 := fun w h => List.mem_append_right _ ((by decide +kernel : ∀ w ∈ wsX40, w ∈ lw_tbl) w h)
