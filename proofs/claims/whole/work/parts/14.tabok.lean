/-! printed by wip/gen/tabok.py: the tables hold, by the Statement's words -/
def ai_cl (ci : Nat) : vw_C := vwCl.getD ci ("", TX0, 0)
def ai_fq (ci f : Nat) : String × String × String × Bool := (ai_cl ci).2.1 f
def ai_on (o : Nat) : String := ai_own.getD o ""
def ai_fw (e : (Nat × Nat) × ((Nat × Nat × Nat) × (Nat × Nat))) : List Cond :=
  if e.2.1.2.2 < 5 then (if e.2.2.2 = 0 then [.fieldLink (ai_on e.1.1) e.1.2 (ai_fq e.2.1.1 e.2.1.2.1).1 (ai_fq e.2.1.1 e.2.1.2.1).2.1 (ai_fq e.2.1.1 e.2.1.2.1).2.2.1] else [.fieldLinkNest (ai_on e.1.1) e.1.2 (ai_fq e.2.1.1 e.2.1.2.1).1 (ai_fq e.2.1.1 e.2.1.2.1).2.1 (ai_fq e.2.1.1 e.2.1.2.1).2.2.1 "Ambassadors"])
  else (if e.2.1.2.2 = 5 then [.fieldLink (ai_on e.1.1) e.1.2 "java/lang/String" "coder" "B"] else [.fieldLink (ai_on e.1.1) e.1.2 "java/lang/String" "value" "[B"])
def ai_fok (e : (Nat × Nat) × ((Nat × Nat × Nat) × (Nat × Nat))) : Bool :=
  if e.2.1.2.2 < 5 then decide (e.2.1.1 < 8) && decide ((ai_fq e.2.1.1 e.2.1.2.1).2.2.2 = decide (e.2.2.1 ≠ 0)) && (e.2.2.1 == 0 || e.2.2.2 != 0 || (ai_fq e.2.1.1 e.2.1.2.1).1 == ai_on e.1.1) else e.2.1.2.2 == 5 || e.2.1.2.2 == 6
def ai_cwd (e : (Nat × Nat) × ai_K) : List Cond :=
  (if e.2.1.1 < 10 then Cond.methodLink (ai_on e.1.1) e.1.2 e.2.2.1.1 else Cond.methodLinkNest (ai_on e.1.1) e.1.2 e.2.2.1.1 "Ambassadors") :: .code e.2.2.1.1 e.2.2.1.2.1 e.2.2.1.2.2.1 e.2.2.1.2.2.2 :: .initialized e.2.2.1.1.cls ::
    (if e.2.1.1 % 10 = 1 then [.static e.2.2.1.1] else if e.2.1.1 % 10 = 2 then [.instanceMethod e.2.2.1.1] else [.instanceMethod e.2.2.1.1, .selects e.2.2.1.1.cls e.2.2.1.1 e.2.2.1.1])
def ai_mok (m : ai_M) : Bool := plainFor m.1.1 && (m.1.1.cls != "java/lang/invoke/MethodHandle" && m.1.1.cls != "java/lang/invoke/VarHandle") && decide (m.1.2.2.1 ≤ 40) && ai_on m.2.1 == m.1.1.cls
def ai_cok (e : (Nat × Nat) × ai_K) : Bool :=
  ai_mok e.2.2 && decide ((parseMethodDescriptor e.2.2.1.1.desc).map (fun d => d.parameters.length) = some e.2.1.2.2) && (e.2.1.1 % 10 != 2 || (e.2.2.1.1.name == "<init>" && decide (e.2.2.1.2.2.2 = none))) &&
    (e.2.1.1 % 10 != 0 || (decide (e.2.1.2.1 < 8) && (ai_cl e.2.1.2.1).1 == e.2.2.1.1.cls)) && (e.2.1.1 != 3 || e.2.2.1.1.cls == "java/lang/String") && (e.2.1.1 == 0 || e.2.1.1 == 1 || e.2.1.1 == 2 || e.2.1.1 == 3 || e.2.1.1 == 10 || e.2.1.1 == 11 || e.2.1.1 == 12)
def ai_kw (e : (Nat × Nat) × Nat) : List Cond := [.classLink (ai_on e.1.1) e.1.2 (if e.2 = 100 then "[I" else (ai_cl e.2).1)]
def ai_iw (e : (Nat × Nat) × Int32) : List Cond := [.constant (ai_on e.1.1) e.1.2 e.2]
def ai_lw (e : (Nat × Nat) × Int64) : List Cond := [.constantLong (ai_on e.1.1) e.1.2 e.2]
def ai_sw (e : (Nat × Nat) × Nat) : List Cond := if e.2 = 0 then [.fieldLink (ai_on e.1.1) e.1.2 "java/lang/String" "COMPACT_STRINGS" "Z"] else [.fieldLink (ai_on e.1.1) e.1.2 "jdk/internal/util/Preconditions" "SIOOBE_FORMATTER" "Ljava/util/function/BiFunction;"]
def ai_nw (e : (Nat × Nat) × Nat) : List Cond := if e.2 = 0 then [.methodLink (ai_on e.1.1) e.1.2 Lib.objectInit] else if e.2 = 1 then [.methodLink (ai_on e.1.1) e.1.2 arraycopyName] else [.methodLink (ai_on e.1.1) e.1.2 ⟨"[I", "clone", "()Ljava/lang/Object;"⟩]
def ai_oc : MethodName := ⟨"java/lang/Object", "clone", "()Ljava/lang/Object;"⟩
def ai_W4 : List Cond := [.instanceMethod Lib.objectInit, .code Lib.objectInit ⟨#[0xb1]⟩ 1 none, .native arraycopyName, .static arraycopyName, .initialized "java/lang/System", .sameMethod "[I" "java/lang/Object" "clone" "()Ljava/lang/Object;", .native ai_oc, .instanceMethod ai_oc, .selects "[I" ⟨"[I", "clone", "()Ljava/lang/Object;"⟩ ai_oc, .castable "[I" "java/lang/Cloneable", .arrayClass .int, .arrayClass .boolean, .arrayOver (.object RX7), .arrayOver (.object RX5)]
def ai_clw (q : vw_C) : List Cond := .instantiable q.1 q.2.2 :: .initialized q.1 :: u_ws q.1 q.2.1 q.2.2
theorem ai_chk (ws : List Cond) (ps : List Nat) (hp : ws.map some = ps.map (fun i => lw_tbl[i]?)) (h : ws.all ai_stab = true) : ∀ w ∈ ws, w ∈ ai_WS := by
  intro w hw
  have h1 := List.all_eq_true.mp h w hw
  have h2 : some w ∈ ps.map (fun i => lw_tbl[i]?) := by rw [← hp]; exact List.mem_map_of_mem hw
  obtain ⟨i, -, hi⟩ := List.mem_map.mp h2
  exact ai_WS_in (List.mem_of_getElem? hi) h1
set_option maxRecDepth 100000 in
theorem ai_fT_in_0 : ∀ w ∈ ((ai_fT.drop 0).take 60).flatMap ai_fw, w ∈ ai_WS := ai_chk _ [129, 130, 131, 132, 133, 134, 135, 136, 137, 138, 139, 168, 169, 170, 171, 172, 173, 174, 175, 176, 177, 178, 179, 180, 181, 182, 183, 209, 210, 211, 212, 213, 214, 215, 216, 217, 218, 219, 220, 221, 222, 223, 224, 225, 226, 227, 228, 229, 230, 231, 264, 265, 266, 267, 268, 269, 270, 271, 272, 273] rfl (by decide +kernel)
set_option maxRecDepth 100000 in
theorem ai_fT_in_1 : ∀ w ∈ ((ai_fT.drop 60).take 60).flatMap ai_fw, w ∈ ai_WS := ai_chk _ [274, 275, 296, 297, 298, 299, 300, 301, 472, 473, 474, 475, 490, 491, 492, 493, 494, 495, 496, 497, 498, 499, 500, 501, 982, 983, 984, 985, 986, 987, 988, 989, 990, 991, 992, 993, 994, 995, 996, 997, 998, 999, 1000, 1001, 1002, 1003, 1004, 1005, 1006, 1007, 1008, 1009, 1010, 1011, 1012, 1013, 1014, 1015, 1016, 1017] rfl (by decide +kernel)
set_option maxRecDepth 100000 in
theorem ai_fT_in_2 : ∀ w ∈ ((ai_fT.drop 120).take 60).flatMap ai_fw, w ∈ ai_WS := ai_chk _ [1018, 1019, 1020, 1021, 1022, 1023, 1024, 1025, 1026, 1416, 1417] rfl (by decide +kernel)
theorem ai_fT_in : ∀ e ∈ ai_fT, ∀ w ∈ ai_fw e, w ∈ ai_WS := by
  intro e he w hw
  obtain ⟨i, hi⟩ := List.getElem?_of_mem he
  have hlen : i < 131 := (List.getElem?_eq_some_iff.mp hi).1
  by_cases h0 : i < 60
  · exact ai_fT_in_0 w (List.mem_flatMap.mpr ⟨e, List.mem_of_getElem? (i := i - 0) (by rw [List.getElem?_take, if_pos (by omega), List.getElem?_drop, show 0 + (i - 0) = i by omega]; exact hi), hw⟩)
  by_cases h1 : i < 120
  · exact ai_fT_in_1 w (List.mem_flatMap.mpr ⟨e, List.mem_of_getElem? (i := i - 60) (by rw [List.getElem?_take, if_pos (by omega), List.getElem?_drop, show 60 + (i - 60) = i by omega]; exact hi), hw⟩)
  by_cases h2 : i < 180
  · exact ai_fT_in_2 w (List.mem_flatMap.mpr ⟨e, List.mem_of_getElem? (i := i - 120) (by rw [List.getElem?_take, if_pos (by omega), List.getElem?_drop, show 120 + (i - 120) = i by omega]; exact hi), hw⟩)
  · omega
theorem ai_fT_ok : ∀ e ∈ ai_fT, ai_fok e = true := List.all_eq_true.mp (by decide +kernel)
set_option maxRecDepth 100000 in
theorem ai_cT_in_0 : ∀ w ∈ ((ai_cT.drop 0).take 40).flatMap ai_cwd, w ∈ ai_WS := ai_chk _ [117, 119, 98, 118, 125, 127, 99, 126, 162, 164, 100, 163, 205, 207, 101, 206, 260, 262, 102, 261, 292, 294, 103, 293, 310, 313, 104, 311, 312, 314, 317, 104, 315, 316, 320, 323, 104, 321, 322, 324, 327, 104, 325, 326, 328, 330, 105, 329, 331, 333, 104, 332, 336, 338, 106, 337, 358, 361, 99, 360, 0, 362, 365, 99, 364, 1, 366, 369, 99, 368, 2, 370, 373, 99, 372, 3, 374, 376, 99, 375, 377, 380, 99, 379, 4, 382, 385, 99, 384, 5, 386, 313, 104, 311, 312, 387, 323, 104, 321, 322, 399, 401, 99, 400, 402, 405, 99, 404, 6, 406, 408, 99, 407, 409, 412, 99, 411, 7, 413, 416, 99, 415, 8, 417, 420, 99, 419, 9, 421, 424, 99, 423, 10, 425, 428, 99, 427, 11, 429, 432, 99, 431, 12, 433, 436, 99, 435, 13, 437, 440, 99, 439, 14, 441, 444, 99, 443, 15, 447, 449, 109, 448, 450, 452, 110, 451, 460, 462, 109, 461, 468, 470, 108, 469, 482, 485, 100, 484, 16, 486, 489, 99, 488, 17] rfl (by decide +kernel)
set_option maxRecDepth 100000 in
theorem ai_cT_in_1 : ∀ w ∈ ((ai_cT.drop 40).take 40).flatMap ai_cwd, w ∈ ai_WS := ai_chk _ [527, 530, 98, 528, 529, 531, 534, 98, 532, 533, 535, 538, 101, 537, 18, 539, 542, 98, 541, 19, 543, 546, 101, 545, 20, 547, 549, 109, 548, 550, 553, 98, 551, 552, 554, 556, 98, 555, 557, 560, 98, 558, 559, 561, 564, 98, 562, 563, 565, 568, 100, 567, 21, 569, 572, 98, 570, 571, 573, 576, 101, 575, 22, 577, 580, 101, 579, 23, 581, 576, 101, 575, 22, 582, 585, 101, 584, 24, 586, 589, 101, 588, 25, 590, 546, 101, 545, 20, 591, 462, 109, 461, 592, 595, 100, 594, 26, 596, 568, 100, 567, 21, 597, 600, 100, 599, 27, 601, 603, 100, 602, 604, 606, 100, 605, 607, 449, 109, 448, 608, 611, 98, 609, 610, 612, 615, 101, 614, 28, 616, 619, 98, 617, 618, 620, 623, 98, 621, 622, 624, 626, 113, 625, 627, 629, 113, 628, 630, 585, 101, 584, 24, 631, 634, 98, 632, 633, 635, 638, 101, 637, 29, 639, 642, 98, 640, 641, 643, 646, 101, 645, 30, 647, 650, 98, 648, 649, 651, 654, 101, 653, 31, 655, 658, 101, 657, 32, 659, 626, 113, 625] rfl (by decide +kernel)
set_option maxRecDepth 100000 in
theorem ai_cT_in_2 : ∀ w ∈ ((ai_cT.drop 80).take 40).flatMap ai_cwd, w ∈ ai_WS := ai_chk _ [660, 662, 113, 661, 663, 665, 113, 664, 666, 580, 101, 579, 23, 667, 670, 98, 668, 669, 671, 673, 98, 672, 674, 676, 98, 675, 677, 658, 101, 657, 32, 678, 681, 101, 680, 33, 682, 646, 101, 645, 30, 683, 686, 101, 685, 34, 687, 690, 98, 688, 689, 691, 694, 98, 693, 35, 695, 698, 98, 696, 697, 699, 702, 98, 700, 701, 703, 706, 98, 705, 36, 707, 710, 98, 709, 37, 711, 589, 101, 588, 25, 712, 715, 98, 713, 714, 716, 719, 98, 718, 38, 720, 723, 98, 722, 39, 724, 727, 98, 725, 726, 728, 730, 98, 729, 732, 734, 98, 733, 735, 737, 109, 736, 738, 741, 98, 739, 740, 742, 745, 101, 744, 40, 746, 749, 98, 748, 41, 750, 449, 109, 448, 751, 753, 98, 752, 754, 757, 98, 756, 42, 758, 761, 98, 759, 760, 762, 765, 98, 764, 43, 766, 769, 98, 768, 44, 770, 773, 98, 772, 45, 774, 686, 101, 685, 34, 776, 779, 98, 777, 778, 780, 783, 98, 781, 782, 784, 786, 114, 785, 790, 793, 98, 791, 792, 794, 796, 98, 795] rfl (by decide +kernel)
set_option maxRecDepth 100000 in
theorem ai_cT_in_3 : ∀ w ∈ ((ai_cT.drop 120).take 40).flatMap ai_cwd, w ∈ ai_WS := ai_chk _ [797, 799, 98, 798, 800, 803, 98, 801, 802, 804, 807, 98, 806, 46, 808, 811, 98, 810, 47, 812, 815, 103, 814, 48, 816, 818, 98, 817, 819, 822, 98, 821, 49, 823, 826, 98, 825, 50, 827, 830, 98, 828, 829, 831, 834, 98, 833, 51, 835, 838, 101, 837, 52, 839, 842, 98, 840, 841, 843, 846, 98, 844, 845, 847, 850, 98, 848, 849, 851, 854, 98, 852, 853, 855, 462, 109, 461, 856, 859, 103, 858, 53, 860, 862, 110, 861, 863, 866, 103, 865, 54, 867, 870, 103, 869, 55, 871, 874, 98, 872, 873, 875, 877, 98, 876, 879, 882, 98, 881, 56, 885, 887, 98, 886, 890, 893, 98, 891, 892, 894, 897, 98, 895, 896, 898, 901, 98, 899, 900, 902, 905, 98, 903, 904, 906, 909, 98, 907, 908, 910, 870, 103, 869, 55, 911, 914, 98, 912, 913, 915, 918, 103, 917, 57, 919, 922, 98, 920, 921, 923, 611, 98, 609, 610, 924, 927, 98, 925, 926, 928, 629, 113, 628, 931, 933, 112, 932, 935, 938, 112, 936, 937, 939, 942, 112, 941, 58, 943, 945, 112, 944] rfl (by decide +kernel)
set_option maxRecDepth 100000 in
theorem ai_cT_in_4 : ∀ w ∈ ((ai_cT.drop 160).take 40).flatMap ai_cwd, w ∈ ai_WS := ai_chk _ [946, 949, 112, 948, 59, 950, 953, 112, 952, 60, 955, 958, 112, 957, 61, 959, 962, 112, 961, 62, 963, 965, 112, 964, 966, 969, 112, 968, 63, 970, 973, 112, 972, 64, 974, 977, 112, 976, 65, 978, 981, 112, 980, 66, 1118, 1121, 112, 1119, 1120, 1122, 1125, 112, 1123, 1124, 1126, 1129, 112, 1128, 67, 1130, 1133, 112, 1131, 1132, 1134, 1136, 112, 1135, 1137, 938, 112, 936, 937, 1138, 1141, 112, 1139, 1140, 1142, 1145, 112, 1143, 1144, 1146, 1149, 112, 1148, 68, 1150, 1153, 112, 1152, 69, 1154, 1157, 112, 1156, 70, 1158, 1160, 112, 1159, 1161, 1164, 112, 1163, 71, 1165, 1168, 112, 1167, 72, 1169, 1171, 112, 1170, 1172, 1175, 112, 1173, 1174, 1176, 1179, 112, 1177, 1178, 1180, 1183, 112, 1182, 73, 1184, 1187, 112, 1185, 1186, 1188, 1191, 112, 1190, 74, 1192, 1195, 112, 1193, 1194, 1196, 1199, 112, 1198, 75, 1200, 1203, 112, 1201, 1202, 1204, 1207, 112, 1206, 76, 1208, 1211, 112, 1209, 1210, 1212, 1215, 112, 1214, 77, 1216, 1219, 112, 1218, 78, 1220, 1223, 112, 1222, 79, 1224, 1227, 112, 1225, 1226, 1228, 1231, 112, 1230, 80, 1232, 1235, 112, 1234, 81] rfl (by decide +kernel)
set_option maxRecDepth 100000 in
theorem ai_cT_in_5 : ∀ w ∈ ((ai_cT.drop 200).take 40).flatMap ai_cwd, w ∈ ai_WS := ai_chk _ [1236, 1239, 112, 1237, 1238, 1240, 1243, 112, 1241, 1242, 1244, 1247, 112, 1245, 1246, 1248, 1251, 112, 1250, 82, 1252, 1255, 112, 1253, 1254, 1256, 1259, 112, 1258, 83, 1260, 1263, 112, 1261, 1262, 1266, 1268, 112, 1267, 1269, 1271, 112, 1270, 1272, 1275, 112, 1273, 1274, 1276, 1279, 112, 1278, 84, 1280, 1283, 112, 1281, 1282, 1284, 1287, 112, 1286, 85, 1288, 1291, 112, 1290, 86, 1292, 1295, 112, 1294, 87, 1296, 1299, 112, 1297, 1298, 1300, 1303, 112, 1301, 1302, 1304, 1306, 112, 1305, 1307, 1310, 112, 1308, 1309, 1311, 1314, 112, 1313, 88, 1315, 1318, 112, 1316, 1317, 1319, 1322, 112, 1321, 89, 1323, 1326, 112, 1325, 90, 1327, 1330, 112, 1329, 91, 1331, 1334, 112, 1333, 92, 1335, 1338, 112, 1336, 1337, 1339, 1342, 112, 1341, 93, 1343, 1346, 112, 1345, 94, 1347, 1350, 112, 1348, 1349, 1351, 1354, 112, 1352, 1353, 1355, 1358, 112, 1356, 1357, 1359, 1362, 112, 1360, 1361, 1363, 1366, 112, 1364, 1365, 1368, 1371, 112, 1370, 95, 1374, 1377, 112, 1376, 96, 1380, 1383, 112, 1381, 1382, 1384, 1387, 112, 1385, 1386, 1388, 1391, 112, 1389, 1390, 1392, 1395, 112, 1393, 1394, 1396, 1399, 112, 1397, 1398] rfl (by decide +kernel)
set_option maxRecDepth 100000 in
theorem ai_cT_in_6 : ∀ w ∈ ((ai_cT.drop 240).take 40).flatMap ai_cwd, w ∈ ai_WS := ai_chk _ [1400, 1403, 112, 1401, 1402, 1404, 1407, 112, 1405, 1406, 1408, 1175, 112, 1173, 1174, 1409, 1412, 112, 1410, 1411, 1413, 1415, 112, 1414] rfl (by decide +kernel)
theorem ai_cT_in : ∀ e ∈ ai_cT, ∀ w ∈ ai_cwd e, w ∈ ai_WS := by
  intro e he w hw
  obtain ⟨i, hi⟩ := List.getElem?_of_mem he
  have hlen : i < 245 := (List.getElem?_eq_some_iff.mp hi).1
  by_cases h0 : i < 40
  · exact ai_cT_in_0 w (List.mem_flatMap.mpr ⟨e, List.mem_of_getElem? (i := i - 0) (by rw [List.getElem?_take, if_pos (by omega), List.getElem?_drop, show 0 + (i - 0) = i by omega]; exact hi), hw⟩)
  by_cases h1 : i < 80
  · exact ai_cT_in_1 w (List.mem_flatMap.mpr ⟨e, List.mem_of_getElem? (i := i - 40) (by rw [List.getElem?_take, if_pos (by omega), List.getElem?_drop, show 40 + (i - 40) = i by omega]; exact hi), hw⟩)
  by_cases h2 : i < 120
  · exact ai_cT_in_2 w (List.mem_flatMap.mpr ⟨e, List.mem_of_getElem? (i := i - 80) (by rw [List.getElem?_take, if_pos (by omega), List.getElem?_drop, show 80 + (i - 80) = i by omega]; exact hi), hw⟩)
  by_cases h3 : i < 160
  · exact ai_cT_in_3 w (List.mem_flatMap.mpr ⟨e, List.mem_of_getElem? (i := i - 120) (by rw [List.getElem?_take, if_pos (by omega), List.getElem?_drop, show 120 + (i - 120) = i by omega]; exact hi), hw⟩)
  by_cases h4 : i < 200
  · exact ai_cT_in_4 w (List.mem_flatMap.mpr ⟨e, List.mem_of_getElem? (i := i - 160) (by rw [List.getElem?_take, if_pos (by omega), List.getElem?_drop, show 160 + (i - 160) = i by omega]; exact hi), hw⟩)
  by_cases h5 : i < 240
  · exact ai_cT_in_5 w (List.mem_flatMap.mpr ⟨e, List.mem_of_getElem? (i := i - 200) (by rw [List.getElem?_take, if_pos (by omega), List.getElem?_drop, show 200 + (i - 200) = i by omega]; exact hi), hw⟩)
  by_cases h6 : i < 280
  · exact ai_cT_in_6 w (List.mem_flatMap.mpr ⟨e, List.mem_of_getElem? (i := i - 240) (by rw [List.getElem?_take, if_pos (by omega), List.getElem?_drop, show 240 + (i - 240) = i by omega]; exact hi), hw⟩)
  · omega
set_option maxRecDepth 100000 in
theorem ai_cT_ok : ∀ e ∈ ai_cT, ai_cok e = true := List.all_eq_true.mp (by decide +kernel)
set_option maxRecDepth 100000 in
theorem ai_kT_in_0 : ∀ w ∈ ((ai_kT.drop 0).take 60).flatMap ai_kw, w ∈ ai_WS := ai_chk _ [115, 123, 160, 166, 203, 258, 289, 445, 459, 467, 929] rfl (by decide +kernel)
theorem ai_kT_in : ∀ e ∈ ai_kT, ∀ w ∈ ai_kw e, w ∈ ai_WS := by
  intro e he w hw
  obtain ⟨i, hi⟩ := List.getElem?_of_mem he
  have hlen : i < 11 := (List.getElem?_eq_some_iff.mp hi).1
  by_cases h0 : i < 60
  · exact ai_kT_in_0 w (List.mem_flatMap.mpr ⟨e, List.mem_of_getElem? (i := i - 0) (by rw [List.getElem?_take, if_pos (by omega), List.getElem?_drop, show 0 + (i - 0) = i by omega]; exact hi), hw⟩)
  · omega
set_option maxRecDepth 100000 in
theorem ai_iT_in_0 : ∀ w ∈ ((ai_iT.drop 0).take 60).flatMap ai_iw, w ∈ ai_WS := ai_chk _ [787, 788, 789, 878, 954, 1367] rfl (by decide +kernel)
theorem ai_iT_in : ∀ e ∈ ai_iT, ∀ w ∈ ai_iw e, w ∈ ai_WS := by
  intro e he w hw
  obtain ⟨i, hi⟩ := List.getElem?_of_mem he
  have hlen : i < 6 := (List.getElem?_eq_some_iff.mp hi).1
  by_cases h0 : i < 60
  · exact ai_iT_in_0 w (List.mem_flatMap.mpr ⟨e, List.mem_of_getElem? (i := i - 0) (by rw [List.getElem?_take, if_pos (by omega), List.getElem?_drop, show 0 + (i - 0) = i by omega]; exact hi), hw⟩)
  · omega
set_option maxRecDepth 100000 in
theorem ai_lT_in_0 : ∀ w ∈ ((ai_lT.drop 0).take 60).flatMap ai_lw, w ∈ ai_WS := ai_chk _ [731, 883, 884, 888, 889, 1264, 1265, 1372, 1373, 1378, 1379] rfl (by decide +kernel)
theorem ai_lT_in : ∀ e ∈ ai_lT, ∀ w ∈ ai_lw e, w ∈ ai_WS := by
  intro e he w hw
  obtain ⟨i, hi⟩ := List.getElem?_of_mem he
  have hlen : i < 11 := (List.getElem?_eq_some_iff.mp hi).1
  by_cases h0 : i < 60
  · exact ai_lT_in_0 w (List.mem_flatMap.mpr ⟨e, List.mem_of_getElem? (i := i - 0) (by rw [List.getElem?_take, if_pos (by omega), List.getElem?_drop, show 0 + (i - 0) = i by omega]; exact hi), hw⟩)
  · omega
set_option maxRecDepth 100000 in
theorem ai_sT_in_0 : ∀ w ∈ ((ai_sT.drop 0).take 60).flatMap ai_sw, w ∈ ai_WS := ai_chk _ [318, 334] rfl (by decide +kernel)
theorem ai_sT_in : ∀ e ∈ ai_sT, ∀ w ∈ ai_sw e, w ∈ ai_WS := by
  intro e he w hw
  obtain ⟨i, hi⟩ := List.getElem?_of_mem he
  have hlen : i < 2 := (List.getElem?_eq_some_iff.mp hi).1
  by_cases h0 : i < 60
  · exact ai_sT_in_0 w (List.mem_flatMap.mpr ⟨e, List.mem_of_getElem? (i := i - 0) (by rw [List.getElem?_take, if_pos (by omega), List.getElem?_drop, show 0 + (i - 0) = i by omega]; exact hi), hw⟩)
  · omega
set_option maxRecDepth 100000 in
theorem ai_nT_in_0 : ∀ w ∈ ((ai_nT.drop 0).take 60).flatMap ai_nw, w ∈ ai_WS := ai_chk _ [120, 128, 165, 208, 263, 295, 453, 463, 466, 471, 775, 934] rfl (by decide +kernel)
theorem ai_nT_in : ∀ e ∈ ai_nT, ∀ w ∈ ai_nw e, w ∈ ai_WS := by
  intro e he w hw
  obtain ⟨i, hi⟩ := List.getElem?_of_mem he
  have hlen : i < 12 := (List.getElem?_eq_some_iff.mp hi).1
  by_cases h0 : i < 60
  · exact ai_nT_in_0 w (List.mem_flatMap.mpr ⟨e, List.mem_of_getElem? (i := i - 0) (by rw [List.getElem?_take, if_pos (by omega), List.getElem?_drop, show 0 + (i - 0) = i by omega]; exact hi), hw⟩)
  · omega
set_option maxRecDepth 100000 in
theorem ai_W4_in : ∀ w ∈ ai_W4, w ∈ ai_WS := ai_chk _ [121, 122, 465, 464, 111, 454, 455, 456, 457, 458, 159, 257, 167, 290] rfl (by decide +kernel)
set_option maxRecDepth 100000 in
theorem ai_clw_0 : ∀ w ∈ ai_clw (RX1, TX1, 9), w ∈ ai_WS := ai_chk _ [161, 100, 184, 186, 188, 190, 192, 194, 196, 198, 200] rfl (by decide +kernel)
set_option maxRecDepth 100000 in
theorem ai_clw_1 : ∀ w ∈ ai_clw (RX2, TX2, 6), w ∈ ai_WS := ai_chk _ [259, 102, 276, 278, 280, 282, 284, 286] rfl (by decide +kernel)
set_option maxRecDepth 100000 in
theorem ai_clw_2 : ∀ w ∈ ai_clw (RX3, TX3, 12), w ∈ ai_WS := ai_chk _ [204, 101, 232, 234, 236, 238, 240, 242, 244, 246, 248, 250, 252, 254] rfl (by decide +kernel)
set_option maxRecDepth 100000 in
theorem ai_clw_3 : ∀ w ∈ ai_clw (RX4, TX4, 9), w ∈ ai_WS := ai_chk _ [124, 99, 140, 142, 144, 146, 148, 150, 152, 154, 156] rfl (by decide +kernel)
set_option maxRecDepth 100000 in
theorem ai_clw_4 : ∀ w ∈ ai_clw (RX5, TX5, 3), w ∈ ai_WS := ai_chk _ [291, 103, 302, 304, 306] rfl (by decide +kernel)
set_option maxRecDepth 100000 in
theorem ai_clw_5 : ∀ w ∈ ai_clw (RX7, TX7, 2), w ∈ ai_WS := ai_chk _ [446, 108, 476, 478] rfl (by decide +kernel)
set_option maxRecDepth 100000 in
theorem ai_clw_6 : ∀ w ∈ ai_clw (RX8, TX8, 12), w ∈ ai_WS := ai_chk _ [116, 98, 502, 504, 506, 508, 510, 512, 514, 516, 518, 520, 522, 524] rfl (by decide +kernel)
set_option maxRecDepth 100000 in
theorem ai_clw_7 : ∀ w ∈ ai_clw (RX9, TX9, 45), w ∈ ai_WS := ai_chk _ [930, 112, 1027, 1029, 1031, 1033, 1035, 1037, 1039, 1041, 1043, 1045, 1047, 1049, 1051, 1053, 1055, 1057, 1059, 1061, 1063, 1065, 1067, 1069, 1071, 1073, 1075, 1077, 1079, 1081, 1083, 1085, 1087, 1089, 1091, 1093, 1095, 1097, 1099, 1101, 1103, 1105, 1107, 1109, 1111, 1113, 1115] rfl (by decide +kernel)
/-- what is known of a class whose objects are made -/
def ai_cls (ci : Nat) : Prop := vwCl[ci]? = some (ai_cl ci) ∧ ai_nf ci = (ai_cl ci).2.2 ∧ (∀ w ∈ ai_clw (ai_cl ci), w ∈ ai_WS) ∧ (∀ k, k < (ai_cl ci).2.2 → parseFieldDescriptor ((ai_cl ci).2.1 k).2.2.1 = some (ai_ty ci k)) ∧ (∀ a, a < (ai_cl ci).2.2 → ∀ b, b < (ai_cl ci).2.2 → a ≠ b → ((ai_cl ci).2.1 a).2.1 ≠ ((ai_cl ci).2.1 b).2.1)
theorem ai_cls_ok : ∀ ci, ci < 8 → ai_cls ci := by
  intro ci h
  match ci, h with
  | 0, _ => exact ⟨rfl, rfl, ai_clw_0, tyX1_ok, nmX1⟩
  | 1, _ => exact ⟨rfl, rfl, ai_clw_1, tyX2_ok, nmX2⟩
  | 2, _ => exact ⟨rfl, rfl, ai_clw_2, tyX3_ok, nmX3⟩
  | 3, _ => exact ⟨rfl, rfl, ai_clw_3, tyX4_ok, nmX4⟩
  | 4, _ => exact ⟨rfl, rfl, ai_clw_4, tyX5_ok, nmX5⟩
  | 5, _ => exact ⟨rfl, rfl, ai_clw_5, tyX7_ok, nmX7⟩
  | 6, _ => exact ⟨rfl, rfl, ai_clw_6, tyX8_ok, nmX8⟩
  | 7, _ => exact ⟨rfl, rfl, ai_clw_7, tyX9_ok, nmX9⟩
