/-! the tables' words, each by its place among the law's -/
theorem tblIn {α : Type} {L : List α} {f : α → Jvm.Cond} (idx : List Nat) (h : L.map (fun e => some (f e)) = idx.map (fun i => lw_tbl[i]?)) : ∀ e ∈ L, f e ∈ lw_tbl := fun e he => by
  have h1 : some (f e) ∈ L.map (fun e => some (f e)) := List.mem_map.mpr ⟨e, he, rfl⟩
  rw [h] at h1
  obtain ⟨i, _, hi⟩ := List.mem_map.mp h1
  exact List.mem_of_getElem? hi
set_option maxRecDepth 100000 in
theorem tw_F : ∀ e ∈ zFt, zFw e ∈ lw_tbl := tblIn (f := fun e => zFw e) [151, 152, 153, 154, 155, 156, 157, 174, 175, 176, 177, 190, 191, 192, 193, 194, 195, 196, 197, 198, 199, 200, 201, 224, 225, 226, 227, 228, 229, 230, 253, 254, 255, 256, 262, 263, 264, 265, 266, 328, 329, 330, 331, 332, 333, 334, 335, 924, 925, 926, 927, 928, 929, 930, 931, 932, 933, 934, 935, 936, 937, 938, 939, 940, 941, 942, 943, 944, 945, 946, 947] (by decide +kernel)
set_option maxRecDepth 100000 in
theorem tw_C : ∀ e ∈ zCt, zCw e ∈ lw_tbl := tblIn (f := fun e => zCw e) [139, 147, 170, 186, 218, 243, 249, 275, 276, 280, 284, 287, 288, 292, 296, 300, 304, 308, 312, 315, 316, 320, 353, 357, 361, 365, 369, 373, 377, 381, 385, 389, 390, 394, 398, 402, 406, 407, 411, 415, 419, 421, 422, 426, 427, 431, 435, 439, 443, 444, 447, 448, 452, 456, 460, 461, 465, 466, 470, 473, 477, 480, 484, 488, 492, 493, 494, 498, 502, 506, 510, 511, 514, 517, 518, 522, 526, 530, 531, 535, 539, 543, 544, 548, 549, 553, 557, 558, 562, 566, 570, 574, 575, 579, 583, 587, 591, 595, 599, 603, 607, 611, 615, 619, 620, 624, 626, 630, 634, 638, 639, 643, 644, 648, 652, 656, 657, 661, 665, 669, 673, 674, 678, 679, 683, 687, 690, 694, 698, 702, 706, 710, 714, 718, 722, 726, 730, 734, 738, 742, 745, 749, 753, 757, 761, 765, 769, 773, 777, 781, 785, 789, 793, 797, 798, 802, 806, 807, 808, 809, 810, 811, 815, 819, 823, 826, 830, 834, 838, 846, 914, 920, 999, 1003, 1007, 1011, 1014, 1018, 1022, 1026, 1030, 1034, 1038, 1042, 1046, 1050, 1054, 1058, 1062, 1066, 1070, 1077, 1081, 1085, 1089, 1093, 1097, 1101, 1105, 1109, 1113, 1117, 1121, 1125, 1129, 1133, 1137, 1141, 1144, 1145, 1146, 1150, 1154, 1158, 1162, 1166, 1169, 1173, 1177, 1181, 1185, 1189, 1193, 1197, 1201, 1205, 1209, 1213, 1217, 1221, 1225, 1229, 1233, 1236, 1240, 1244, 1248, 1252, 1256, 1259, 1263, 1267, 1271, 1275, 1279, 1283, 1287, 1291, 1295, 1299, 1303, 1307, 1311, 1315, 1319, 1323, 1326, 1330, 1334, 1338, 1342, 1346, 1350, 1354, 1358, 1362, 1366, 1370, 1374, 1378, 1382, 1386, 1390, 1394, 1398, 1402, 1406, 1410, 1414, 1418, 1422, 1426, 1430, 1435, 1439, 1443, 1447, 1451] (by decide +kernel)
set_option maxRecDepth 100000 in
theorem tw_N : ∀ e ∈ zNt, Jvm.Cond.classLink (zC e.1.1) e.1.2 (zC e.2) ∈ lw_tbl := tblIn (f := fun (e : (Nat × Nat) × Nat) => Jvm.Cond.classLink (zC e.1.1) e.1.2 (zC e.2)) [137, 145, 168, 184, 216, 222, 241, 247, 274, 918] (by decide +kernel)
set_option maxRecDepth 100000 in
theorem tw_N2 : ∀ e ∈ zNt, Jvm.Cond.instantiable (zC e.2) (zN e.2) ∈ lw_tbl := tblIn (f := fun (e : (Nat × Nat) × Nat) => Jvm.Cond.instantiable (zC e.2) (zN e.2)) [138, 146, 169, 185, 217, 242, 242, 248, 248, 919] (by decide +kernel)
set_option maxRecDepth 100000 in
theorem tw_I : ∀ e ∈ zIt, Jvm.Cond.constant (zC e.1.1) e.1.2 e.2 ∈ lw_tbl := tblIn (f := fun (e : (Nat × Nat) × Int32) => Jvm.Cond.constant (zC e.1.1) e.1.2 e.2) [303, 822, 1172, 1434] (by decide +kernel)
set_option maxRecDepth 100000 in
theorem tw_L : ∀ e ∈ zLt, Jvm.Cond.constantLong (zC e.1.1) e.1.2 e.2 ∈ lw_tbl := tblIn (f := fun (e : (Nat × Nat) × Int64) => Jvm.Cond.constantLong (zC e.1.1) e.1.2 e.2) [420, 1074, 1075, 1076] (by decide +kernel)
def isCode (o : Option Jvm.Cond) (j : Nat) : Bool := match o with
  | some (.code y b n r) => decide (y = mY j) && (b.data.toList == (mB j).data.toList) && decide (n = mL j) && decide (r = mR j)
  | _ => false
theorem isCode_ok {o : Option Jvm.Cond} {j : Nat} (h : isCode o j = true) : o = some (zVw j) := by
  unfold isCode at h
  split at h
  next y b n r =>
    simp only [Bool.and_eq_true, decide_eq_true_eq, beq_iff_eq] at h
    obtain ⟨⟨⟨h1, h2⟩, h3⟩, h4⟩ := h
    have hb : b = mB j := by
      have : b.data = (mB j).data := Array.toList_inj.mp h2
      cases b
      cases hm : mB j
      rw [hm] at this
      dsimp only at this
      rw [this]
    subst h1; subst h3; subst h4; subst hb
    rfl
  next => cases h
theorem codeIn {a n : Nat} (idx : List Nat) (hl : n ≤ idx.length) (h : ((List.range n).zip idx).all (fun p => isCode lw_tbl[p.2]? (a + p.1)) = true) : ∀ e, e < n → zVw (a + e) ∈ lw_tbl := fun e he => by
  have hi : e < idx.length := Nat.lt_of_lt_of_le he hl
  have hm : (e, idx[e]) ∈ (List.range n).zip idx := by
    refine List.mem_of_getElem? (i := e) ?_
    rw [List.getElem?_zip_eq_some]
    exact ⟨by rw [List.getElem?_range he], List.getElem?_eq_getElem hi⟩
  exact List.mem_of_getElem? (isCode_ok (List.all_eq_true.mp h _ hm))
set_option maxRecDepth 100000 in
theorem tw_V0 : ∀ e, e < 36 → zVw (0 + e) ∈ lw_tbl := codeIn [141, 149, 172, 188, 220, 245, 251, 279, 283, 286, 291, 295, 299, 302, 307, 311, 314, 319, 323, 356, 360, 364, 368, 372, 376, 380, 384, 388, 393, 397, 401, 405, 410, 414, 418, 425] (Nat.le_of_ble_eq_true rfl) (by decide +kernel)
set_option maxRecDepth 100000 in
theorem tw_V1 : ∀ e, e < 36 → zVw (36 + e) ∈ lw_tbl := codeIn [430, 434, 438, 442, 446, 451, 455, 459, 464, 469, 472, 476, 479, 483, 487, 491, 497, 501, 505, 509, 513, 516, 521, 525, 529, 534, 538, 542, 547, 552, 556, 561, 565, 569, 573, 578] (Nat.le_of_ble_eq_true rfl) (by decide +kernel)
set_option maxRecDepth 100000 in
theorem tw_V2 : ∀ e, e < 36 → zVw (72 + e) ∈ lw_tbl := codeIn [582, 586, 590, 594, 598, 602, 606, 610, 614, 618, 623, 629, 633, 637, 642, 647, 651, 655, 660, 664, 668, 672, 677, 682, 686, 689, 693, 697, 701, 705, 709, 713, 717, 721, 725, 729] (Nat.le_of_ble_eq_true rfl) (by decide +kernel)
set_option maxRecDepth 100000 in
theorem tw_V3 : ∀ e, e < 36 → zVw (108 + e) ∈ lw_tbl := codeIn [733, 737, 741, 744, 748, 752, 756, 760, 764, 768, 772, 776, 780, 784, 788, 792, 796, 801, 805, 814, 818, 821, 825, 829, 833, 837, 841, 849, 917, 922, 1002, 1006, 1010, 1013, 1017, 1021] (Nat.le_of_ble_eq_true rfl) (by decide +kernel)
set_option maxRecDepth 100000 in
theorem tw_V4 : ∀ e, e < 36 → zVw (144 + e) ∈ lw_tbl := codeIn [1025, 1029, 1033, 1037, 1041, 1045, 1049, 1053, 1057, 1061, 1065, 1069, 1073, 1080, 1084, 1088, 1092, 1096, 1100, 1104, 1108, 1112, 1116, 1120, 1124, 1128, 1132, 1136, 1140, 1143, 1149, 1153, 1157, 1161, 1165, 1168] (Nat.le_of_ble_eq_true rfl) (by decide +kernel)
set_option maxRecDepth 100000 in
theorem tw_V5 : ∀ e, e < 36 → zVw (180 + e) ∈ lw_tbl := codeIn [1171, 1176, 1180, 1184, 1188, 1192, 1196, 1200, 1204, 1208, 1212, 1216, 1220, 1224, 1228, 1232, 1235, 1239, 1243, 1247, 1251, 1255, 1258, 1262, 1266, 1270, 1274, 1278, 1282, 1286, 1290, 1294, 1298, 1302, 1306, 1310] (Nat.le_of_ble_eq_true rfl) (by decide +kernel)
set_option maxRecDepth 100000 in
theorem tw_V6 : ∀ e, e < 36 → zVw (216 + e) ∈ lw_tbl := codeIn [1314, 1318, 1322, 1325, 1329, 1333, 1337, 1341, 1345, 1349, 1353, 1357, 1361, 1365, 1369, 1373, 1377, 1381, 1385, 1389, 1393, 1397, 1401, 1405, 1409, 1413, 1417, 1421, 1425, 1429, 1433, 1438, 1442, 1446, 1450, 1454] (Nat.le_of_ble_eq_true rfl) (by decide +kernel)
set_option maxRecDepth 100000 in
theorem tw_K : ∀ e ∈ (List.range 252), zKw e ∈ lw_tbl := tblIn (f := fun e => zKw e) [140, 148, 171, 187, 219, 244, 250, 278, 282, 285, 290, 294, 298, 301, 306, 310, 313, 318, 322, 354, 359, 362, 366, 371, 375, 379, 383, 387, 392, 396, 400, 404, 409, 413, 417, 424, 429, 433, 437, 441, 445, 449, 454, 458, 463, 468, 471, 475, 478, 482, 486, 490, 496, 499, 504, 508, 512, 515, 519, 524, 528, 532, 536, 541, 545, 550, 554, 559, 563, 567, 572, 576, 580, 585, 589, 593, 596, 601, 604, 609, 613, 617, 622, 627, 631, 636, 641, 645, 649, 654, 658, 663, 667, 671, 675, 680, 684, 688, 691, 695, 700, 703, 707, 711, 716, 720, 723, 727, 732, 735, 739, 743, 746, 751, 754, 758, 762, 767, 770, 774, 778, 782, 786, 790, 795, 800, 804, 812, 816, 820, 824, 827, 832, 835, 839, 847, 915, 921, 1000, 1004, 1008, 1012, 1015, 1020, 1024, 1028, 1032, 1036, 1040, 1044, 1048, 1052, 1056, 1059, 1064, 1068, 1072, 1078, 1083, 1087, 1091, 1095, 1099, 1103, 1107, 1111, 1115, 1119, 1123, 1127, 1131, 1134, 1139, 1142, 1147, 1152, 1156, 1159, 1164, 1167, 1170, 1175, 1178, 1183, 1186, 1190, 1194, 1198, 1203, 1207, 1210, 1214, 1218, 1223, 1226, 1230, 1234, 1238, 1241, 1245, 1249, 1254, 1257, 1261, 1264, 1268, 1272, 1277, 1281, 1284, 1288, 1293, 1296, 1300, 1304, 1308, 1312, 1316, 1320, 1324, 1327, 1331, 1335, 1340, 1343, 1347, 1352, 1356, 1359, 1363, 1368, 1371, 1376, 1379, 1384, 1387, 1392, 1395, 1400, 1403, 1407, 1412, 1416, 1420, 1423, 1427, 1432, 1436, 1440, 1444, 1449, 1452] (by decide +kernel)
set_option maxRecDepth 100000 in
theorem tw_S : ∀ e ∈ (List.range 252), zSw e ∈ lw_tbl := tblIn (f := fun e => zSw e) [122, 123, 124, 125, 126, 127, 128, 0, 1, 129, 2, 3, 4, 122, 5, 6, 130, 7, 8, 355, 9, 363, 367, 10, 11, 12, 13, 14, 15, 16, 17, 18, 19, 20, 21, 22, 23, 24, 25, 26, 122, 450, 27, 28, 29, 30, 122, 31, 130, 32, 33, 34, 35, 500, 36, 37, 122, 130, 520, 38, 39, 533, 537, 40, 546, 551, 555, 560, 564, 568, 41, 577, 581, 42, 43, 44, 597, 45, 605, 46, 47, 48, 49, 628, 632, 50, 51, 646, 650, 52, 659, 53, 54, 55, 676, 681, 685, 122, 692, 696, 56, 704, 708, 712, 57, 58, 724, 728, 59, 736, 740, 122, 747, 60, 755, 759, 763, 61, 771, 775, 779, 783, 787, 791, 62, 63, 64, 813, 817, 122, 122, 828, 65, 836, 840, 848, 916, 132, 1001, 1005, 1009, 132, 1016, 67, 68, 69, 70, 71, 72, 73, 74, 75, 76, 1060, 77, 78, 79, 1079, 80, 81, 82, 83, 84, 85, 86, 87, 88, 89, 90, 91, 92, 1135, 93, 132, 1148, 94, 95, 1160, 96, 132, 132, 97, 1179, 98, 1187, 1191, 1195, 1199, 99, 100, 1211, 1215, 1219, 101, 1227, 1231, 132, 102, 1242, 1246, 1250, 103, 132, 104, 1265, 1269, 1273, 105, 106, 1285, 1289, 107, 1297, 1301, 1305, 1309, 1313, 1317, 1321, 132, 1328, 1332, 1336, 108, 1344, 1348, 109, 110, 1360, 1364, 111, 1372, 112, 1380, 113, 1388, 114, 1396, 115, 1404, 1408, 116, 117, 118, 1424, 1428, 119, 1437, 1441, 1445, 120, 1453] (by decide +kernel)
set_option maxRecDepth 100000 in
theorem tw_D : ∀ e ∈ (List.range 10), Jvm.Cond.initialized (zC e) ∈ lw_tbl := tblIn (f := fun e => Jvm.Cond.initialized (zC e)) [126, 128, 125, 124, 123, 127, 122, 132, 130, 129] (by decide +kernel)
set_option maxRecDepth 100000 in
theorem tw_O : ∀ e ∈ (List.range 8), Jvm.Cond.methodLink (zC e) 3 Lib.objectInit ∈ lw_tbl := tblIn (f := fun e => Jvm.Cond.methodLink (zC e) 3 Lib.objectInit) [221, 252, 189, 173, 150, 246, 142, 923] (by decide +kernel)
set_option maxRecDepth 100000 in
theorem tw_U0 : ∀ e ∈ u_ws (zC 0) (zT 0) (zN 0), e ∈ lw_tbl := tblIn (f := fun e => e) [231, 233, 235, 237] (by decide +kernel)
set_option maxRecDepth 100000 in
theorem tw_U1 : ∀ e ∈ u_ws (zC 1) (zT 1) (zN 1), e ∈ lw_tbl := tblIn (f := fun e => e) [257, 259] (by decide +kernel)
set_option maxRecDepth 100000 in
theorem tw_U2 : ∀ e ∈ u_ws (zC 2) (zT 2) (zN 2), e ∈ lw_tbl := tblIn (f := fun e => e) [202, 204, 206, 208, 210, 212] (by decide +kernel)
set_option maxRecDepth 100000 in
theorem tw_U3 : ∀ e ∈ u_ws (zC 3) (zT 3) (zN 3), e ∈ lw_tbl := tblIn (f := fun e => e) [178, 180] (by decide +kernel)
set_option maxRecDepth 100000 in
theorem tw_U4 : ∀ e ∈ u_ws (zC 4) (zT 4) (zN 4), e ∈ lw_tbl := tblIn (f := fun e => e) [158, 160, 162, 164] (by decide +kernel)
set_option maxRecDepth 100000 in
theorem tw_U5 : ∀ e ∈ u_ws (zC 5) (zT 5) (zN 5), e ∈ lw_tbl := tblIn (f := fun e => e) [267, 269, 271] (by decide +kernel)
set_option maxRecDepth 100000 in
theorem tw_U6 : ∀ e ∈ u_ws (zC 6) (zT 6) (zN 6), e ∈ lw_tbl := tblIn (f := fun e => e) [336, 338, 340, 342, 344, 346, 348, 350] (by decide +kernel)
set_option maxRecDepth 100000 in
theorem tw_U7 : ∀ e ∈ u_ws (zC 7) (zT 7) (zN 7), e ∈ lw_tbl := tblIn (f := fun e => e) [948, 950, 952, 954, 956, 958, 960, 962, 964, 966, 968, 970, 972, 974, 976, 978, 980, 982, 984, 986, 988, 990, 992, 994] (by decide +kernel)
set_option maxRecDepth 100000 in
theorem tw_X : ∀ e ∈ zX, e ∈ lw_tbl := tblIn (f := fun e => e) [326, 325, 131, 324, 625, 327, 143, 144, 215, 183, 997, 167, 998, 223, 240] (by decide +kernel)
set_option maxRecDepth 100000 in
theorem tw_E : ∀ e ∈ zE, e ∈ lw_tbl := tblIn (f := fun e => e) [850, 136, 845, 852, 121, 844, 843, 842, 913, 912, 911, 133, 872, 881, 883, 886, 888, 873, 874, 143, 144, 875, 880, 884, 900, 862, 901, 864, 902, 866, 876, 878, 868, 890, 891, 892, 893, 853, 893, 894, 895, 896, 855, 896, 897, 898, 873, 857, 889, 851, 852, 859, 860, 861, 863, 865, 867, 871, 870, 869] (by decide +kernel)
