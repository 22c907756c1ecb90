/-! THE WORDS of the pools and of the methods, by their places in the tables -/
def ROf (o : Nat) : String := if o < 12 then RF o else RL
theorem pk_mem {α : Type} {t : List (Nat × Nat × α)} {a b : Nat} {v : α} (h : pk t a b = some v) : (a, b, v) ∈ t := by
  unfold pk at h
  rw [Option.map_eq_some_iff] at h
  obtain ⟨e, he, rfl⟩ := h
  have h1 := List.find?_some he
  have h2 := List.mem_of_find?_eq_some he
  simp only [Bool.and_eq_true, beq_iff_eq] at h1
  obtain ⟨rfl, rfl⟩ := h1
  exact h2
theorem gtb_at {p : Nat} {w : Cond} (h : tables_1[p]? = some w) (hg : goodWord w = true) : w ∈ gtb := gtb_of (tb_at p h) hg
theorem ntb_at {p : Nat} {w : Cond} (h : tables_1[p]? = some w) (hg : isNest w = true) : w ∈ ntb := ntb_of (tb_at p h) hg
theorem sel_at {p : Nat} {w : Cond} (h : (k2_sels lw_privs)[p]? = some w) (hg : goodWord w = true) : w ∈ gtb := gtb_of (List.mem_append_left _ (List.mem_of_getElem? h)) hg
def fpt : List ((Nat × Nat × Nat × Nat) × Nat) := [((3, 34, 3, 0), 46), ((6, 93, 3, 0), 47), ((3, 7, 3, 1), 48), ((6, 103, 3, 1), 49), ((3, 13, 3, 2), 50), ((6, 176, 3, 2), 51), ((3, 16, 3, 3), 52), ((6, 143, 3, 3), 53), ((3, 19, 3, 4), 54), ((6, 131, 3, 4), 55), ((3, 22, 3, 5), 56), ((6, 140, 3, 5), 57), ((3, 25, 3, 6), 58), ((6, 134, 3, 6), 59), ((3, 28, 3, 7), 60), ((6, 150, 3, 7), 61), ((3, 31, 3, 8), 62), ((6, 164, 3, 8), 63), ((3, 48, 3, 9), 64), ((6, 100, 3, 9), 65), ((6, 11, 6, 0), 88), ((6, 17, 6, 1), 89), ((6, 21, 6, 2), 90), ((6, 35, 6, 3), 91), ((6, 76, 6, 4), 92), ((10, 255, 6, 4), 93), ((6, 24, 6, 5), 94), ((6, 39, 6, 6), 95), ((6, 42, 6, 7), 96), ((6, 45, 6, 8), 97), ((6, 48, 6, 9), 98), ((6, 51, 6, 10), 99), ((6, 54, 6, 11), 100), ((10, 213, 6, 11), 101), ((6, 57, 6, 12), 102), ((10, 187, 6, 12), 103), ((6, 60, 6, 13), 104), ((6, 63, 6, 14), 105), ((6, 66, 6, 15), 106), ((6, 69, 6, 16), 107), ((6, 28, 6, 17), 108), ((6, 31, 6, 18), 109), ((5, 9, 5, 0), 155), ((5, 15, 5, 1), 156), ((5, 18, 5, 2), 157), ((5, 21, 5, 3), 158), ((5, 24, 5, 4), 159), ((5, 33, 5, 5), 160), ((5, 37, 5, 6), 161), ((5, 41, 5, 7), 162), ((5, 44, 5, 8), 163), ((9, 9, 9, 0), 189), ((9, 15, 9, 1), 190), ((9, 18, 9, 2), 191), ((9, 27, 9, 3), 192), ((10, 117, 9, 3), 193), ((4, 12, 4, 0), 203), ((10, 60, 4, 0), 204), ((4, 21, 4, 1), 205), ((10, 223, 4, 1), 206), ((4, 28, 4, 2), 207), ((10, 113, 4, 2), 208), ((4, 32, 4, 3), 209), ((10, 169, 4, 3), 210), ((4, 36, 4, 4), 211), ((10, 205, 4, 4), 212), ((7, 11, 7, 0), 231), ((7, 15, 7, 1), 232), ((2, 129, 7, 1), 233), ((7, 18, 7, 2), 234), ((2, 135, 7, 2), 235), ((7, 21, 7, 3), 236), ((2, 132, 7, 3), 237), ((7, 24, 7, 4), 238), ((10, 122, 7, 4), 239), ((7, 28, 7, 5), 240), ((2, 126, 7, 5), 241), ((2, 13, 2, 0), 263), ((2, 19, 2, 1), 264), ((2, 23, 2, 2), 265), ((2, 34, 2, 3), 266), ((2, 37, 2, 4), 267), ((2, 71, 2, 5), 268), ((2, 40, 2, 6), 269), ((2, 27, 2, 7), 270), ((2, 87, 2, 8), 271), ((2, 90, 2, 9), 272), ((2, 43, 2, 10), 273), ((1, 11, 1, 0), 303), ((1, 17, 1, 1), 304), ((10, 12, 10, 0), 312), ((10, 16, 10, 1), 313), ((10, 23, 10, 2), 314), ((10, 32, 10, 3), 315), ((10, 39, 10, 4), 316), ((10, 45, 10, 5), 317), ((10, 49, 10, 6), 318), ((10, 52, 10, 7), 319), ((10, 106, 10, 8), 320), ((10, 110, 10, 9), 321), ((0, 7, 0, 0), 699), ((1, 53, 0, 0), 700), ((0, 13, 0, 1), 701), ((1, 61, 0, 1), 702), ((10, 275, 0, 1), 703), ((0, 16, 0, 2), 704), ((1, 64, 0, 2), 705), ((10, 280, 0, 2), 706), ((0, 19, 0, 3), 707), ((1, 26, 0, 3), 708), ((8, 18, 8, 0), 728), ((1, 47, 8, 0), 729), ((10, 271, 8, 0), 730), ((11, 156, 11, 1), 1008), ((11, 212, 11, 2), 1009), ((11, 160, 11, 3), 1010), ((11, 163, 11, 4), 1011), ((11, 166, 11, 5), 1012), ((11, 169, 11, 6), 1013), ((11, 172, 11, 7), 1014), ((11, 175, 11, 8), 1015), ((11, 178, 11, 9), 1016), ((11, 181, 11, 10), 1017), ((11, 7, 11, 11), 1018), ((11, 184, 11, 12), 1019), ((11, 13, 11, 13), 1020), ((11, 16, 11, 14), 1021), ((11, 19, 11, 15), 1022), ((11, 22, 11, 16), 1023), ((11, 26, 11, 17), 1024), ((11, 29, 11, 18), 1025), ((11, 32, 11, 19), 1026), ((11, 35, 11, 20), 1027), ((11, 38, 11, 21), 1028), ((11, 41, 11, 22), 1029), ((11, 44, 11, 23), 1030), ((11, 47, 11, 24), 1031), ((11, 50, 11, 25), 1032), ((11, 53, 11, 26), 1033), ((11, 238, 11, 27), 1034), ((11, 276, 11, 28), 1035), ((11, 273, 11, 29), 1036), ((11, 301, 11, 30), 1037), ((11, 304, 11, 31), 1038), ((11, 339, 11, 32), 1039), ((11, 307, 11, 33), 1040), ((11, 336, 11, 34), 1041), ((11, 56, 11, 35), 1042), ((11, 60, 11, 36), 1043), ((11, 63, 11, 37), 1044), ((11, 66, 11, 38), 1045), ((11, 69, 11, 39), 1046), ((11, 72, 11, 40), 1047), ((11, 75, 11, 41), 1048), ((11, 78, 11, 42), 1049), ((11, 81, 11, 43), 1050), ((11, 84, 11, 44), 1051), ((11, 87, 11, 45), 1052), ((11, 90, 11, 46), 1053), ((11, 94, 11, 47), 1054), ((11, 97, 11, 48), 1055), ((11, 100, 11, 49), 1056), ((11, 103, 11, 50), 1057), ((11, 475, 11, 51), 1058), ((11, 478, 11, 52), 1059), ((11, 481, 11, 53), 1060), ((11, 470, 11, 54), 1061), ((11, 106, 11, 55), 1062), ((11, 109, 11, 56), 1063), ((11, 112, 11, 57), 1064), ((11, 115, 11, 58), 1065), ((11, 118, 11, 59), 1066), ((11, 121, 11, 60), 1067), ((11, 235, 11, 61), 1068), ((11, 124, 11, 62), 1069), ((11, 127, 11, 63), 1070), ((11, 130, 11, 64), 1071), ((11, 133, 11, 65), 1072), ((11, 136, 11, 66), 1073), ((11, 139, 11, 67), 1074), ((11, 507, 11, 68), 1075), ((11, 504, 11, 69), 1076)]
def fwd (e : Nat × Nat × Nat × Nat) : Cond := .fieldLink (ROf e.1) e.2.1 (TF e.2.2.1 e.2.2.2).1 (TF e.2.2.1 e.2.2.2).2.1 (TF e.2.2.1 e.2.2.2).2.2.1
def fwn (e : Nat × Nat × Nat × Nat) : Cond := .fieldLinkNest (ROf e.1) e.2.1 (TF e.2.2.1 e.2.2.2).1 (TF e.2.2.1 e.2.2.2).2.1 (TF e.2.2.1 e.2.2.2).2.2.1 "TreacleTank"
set_option maxRecDepth 100000 in
theorem fpt_ok : fpt.map (fun q => q.1) = ftab := by decide +kernel
set_option maxRecDepth 100000 in
theorem fpt_all : fpt.all (fun q => decide (tables_1[q.2]? = some (fwd q.1)) || decide (tables_1[q.2]? = some (fwn q.1))) = true := by decide +kernel
theorem fld_ok {a b ci k : Nat} (h : pk ftab a b = some (ci, k)) : fwd (a, b, ci, k) ∈ gtb ∨ fwn (a, b, ci, k) ∈ ntb := by
  have hm := pk_mem h
  rw [← fpt_ok, List.mem_map] at hm
  obtain ⟨q, hq, e⟩ := hm
  have := List.all_eq_true.mp fpt_all q hq
  simp only [Bool.or_eq_true, decide_eq_true_eq] at this
  rw [e] at this
  rcases this with h1 | h1
  · exact Or.inl (gtb_at h1 rfl)
  · exact Or.inr (ntb_at h1 rfl)
set_option maxRecDepth 100000 in
theorem fld_cls : ftab.all (fun e => decide (e.2.2.1 < 12) && decide (e.2.2.2 < nF e.2.2.1) && decide ((TF e.2.2.1 e.2.2.2).1 = RF e.2.2.1)) = true := by decide +kernel
/-- of each method: its kind (0 of an object, 1 static, 2 a constructor), places of its words -/
def jpt : List (Nat × Nat × Nat × Nat × Nat × Nat) := [(2, 697, 17, 696, 2, 0), (2, 301, 9, 300, 2, 0), (0, 754, 9, 752, 0, 753), (0, 766, 9, 764, 0, 765), (0, 770, 9, 769, 1, 29), (0, 774, 9, 773, 1, 30), (1, 778, 9, 777, 2, 0), (0, 762, 9, 760, 0, 761), (0, 790, 9, 788, 0, 789), (0, 799, 9, 797, 0, 798), (1, 803, 9, 802, 2, 0), (2, 259, 8, 258, 2, 0), (0, 737, 8, 735, 0, 736), (0, 521, 8, 519, 0, 520), (0, 634, 8, 633, 1, 14), (1, 641, 8, 640, 2, 0), (0, 649, 8, 648, 1, 17), (0, 690, 8, 689, 1, 27), (0, 653, 8, 652, 1, 18), (0, 670, 8, 669, 1, 22), (0, 674, 8, 673, 1, 23), (0, 678, 8, 677, 1, 24), (0, 682, 8, 681, 1, 25), (0, 686, 8, 685, 1, 26), (0, 638, 8, 637, 1, 15), (0, 657, 8, 656, 1, 19), (0, 666, 8, 665, 1, 21), (0, 662, 8, 661, 1, 20), (0, 645, 8, 644, 1, 16), (2, 44, 4, 43, 2, 0), (0, 370, 4, 368, 0, 369), (0, 374, 4, 372, 0, 373), (0, 378, 4, 376, 0, 377), (0, 983, 4, 981, 0, 982), (2, 31, 2, 30, 2, 0), (0, 973, 2, 971, 0, 972), (2, 153, 5, 152, 2, 0), (0, 990, 5, 988, 0, 989), (0, 902, 5, 900, 0, 901), (0, 912, 5, 910, 0, 911), (0, 925, 5, 923, 0, 924), (0, 929, 5, 928, 1, 37), (0, 933, 5, 932, 1, 38), (0, 916, 5, 915, 1, 36), (0, 942, 5, 940, 0, 941), (2, 37, 3, 36, 2, 0), (0, 353, 3, 351, 0, 352), (0, 977, 3, 975, 0, 976), (0, 481, 3, 479, 0, 480), (0, 877, 3, 875, 0, 876), (0, 366, 3, 364, 0, 365), (0, 362, 3, 360, 0, 361), (0, 382, 3, 380, 0, 381), (0, 397, 3, 395, 0, 396), (0, 428, 3, 426, 0, 427), (0, 436, 3, 434, 0, 435), (0, 444, 3, 442, 0, 443), (0, 449, 3, 448, 1, 6), (0, 453, 3, 452, 1, 7), (0, 401, 3, 400, 1, 1), (0, 405, 3, 404, 1, 2), (0, 386, 3, 385, 1, 0), (0, 860, 3, 859, 1, 33), (0, 417, 3, 416, 1, 5), (0, 413, 3, 412, 1, 4), (0, 409, 3, 408, 1, 3), (0, 461, 3, 459, 0, 460), (0, 469, 3, 467, 0, 468), (0, 477, 3, 475, 0, 476), (0, 489, 3, 487, 0, 488), (0, 493, 3, 492, 1, 8), (0, 836, 3, 834, 0, 835), (0, 844, 3, 842, 0, 843), (0, 852, 3, 850, 0, 851), (0, 868, 3, 866, 0, 867), (0, 856, 3, 855, 1, 32), (0, 758, 3, 756, 0, 757), (2, 229, 7, 228, 2, 0), (0, 501, 7, 499, 0, 500), (0, 505, 7, 503, 0, 504), (0, 513, 7, 511, 0, 512), (0, 525, 7, 523, 0, 524), (0, 529, 7, 528, 1, 9), (0, 536, 7, 535, 1, 10), (0, 547, 7, 546, 1, 12), (0, 579, 7, 578, 1, 13), (0, 540, 7, 539, 1, 11), (1, 532, 7, 531, 2, 0), (1, 543, 7, 542, 2, 0), (1, 630, 7, 629, 2, 0), (1, 550, 7, 549, 2, 0), (1, 562, 7, 561, 2, 0), (2, 723, 18, 722, 2, 0), (2, 187, 6, 186, 2, 0), (0, 995, 6, 993, 0, 994), (0, 950, 6, 948, 0, 949), (0, 958, 6, 956, 0, 957), (1, 965, 6, 964, 2, 0), (2, 23, 1, 22, 2, 0), (0, 346, 1, 344, 0, 345), (0, 357, 1, 355, 0, 356), (0, 393, 1, 391, 0, 392), (0, 424, 1, 422, 0, 423), (0, 432, 1, 430, 0, 431), (0, 440, 1, 438, 0, 439), (0, 457, 1, 455, 0, 456), (0, 465, 1, 463, 0, 464), (0, 473, 1, 471, 0, 472), (0, 485, 1, 483, 0, 484), (0, 497, 1, 495, 0, 496), (0, 509, 1, 507, 0, 508), (0, 517, 1, 515, 0, 516), (0, 741, 1, 739, 0, 740), (0, 745, 1, 743, 0, 744), (0, 782, 1, 780, 0, 781), (0, 786, 1, 784, 0, 785), (0, 794, 1, 792, 0, 793), (0, 810, 1, 808, 0, 809), (0, 815, 1, 813, 0, 814), (0, 828, 1, 826, 0, 827), (0, 832, 1, 830, 0, 831), (0, 840, 1, 838, 0, 839), (0, 848, 1, 846, 0, 847), (0, 864, 1, 862, 0, 863), (0, 873, 1, 871, 0, 872), (0, 882, 1, 880, 0, 881), (0, 895, 1, 893, 0, 894), (0, 907, 1, 905, 0, 906), (0, 921, 1, 919, 0, 920), (0, 938, 1, 936, 0, 937), (0, 946, 1, 944, 0, 945), (0, 954, 1, 952, 0, 953), (0, 969, 1, 967, 0, 968), (0, 1001, 1, 999, 0, 1000), (0, 749, 1, 748, 1, 28), (0, 819, 1, 818, 1, 31), (0, 886, 1, 885, 1, 34), (0, 890, 1, 889, 1, 35), (1, 898, 1, 897, 2, 0), (1, 349, 1, 348, 2, 0), (2, 1006, 10, 1005, 2, 0), (1, 1227, 10, 1226, 2, 0), (0, 1223, 10, 1221, 0, 1222), (0, 1311, 10, 1310, 1, 49), (0, 1253, 10, 1252, 1, 42), (0, 1245, 10, 1244, 1, 40), (0, 1249, 10, 1248, 1, 41), (0, 1241, 10, 1240, 1, 39), (0, 1273, 10, 1272, 1, 46), (0, 1269, 10, 1268, 1, 45), (0, 1265, 10, 1264, 1, 44), (0, 1261, 10, 1260, 1, 43), (0, 1277, 10, 1276, 1, 47), (0, 1233, 10, 1231, 0, 1232), (0, 1257, 10, 1255, 0, 1256), (0, 1281, 10, 1279, 0, 1280), (0, 1285, 10, 1283, 0, 1284), (0, 1295, 10, 1294, 1, 48), (0, 1289, 10, 1287, 0, 1288), (0, 1299, 10, 1297, 0, 1298), (0, 1303, 10, 1301, 0, 1302), (0, 1307, 10, 1305, 0, 1306), (0, 1319, 10, 1318, 1, 50), (0, 1315, 10, 1313, 0, 1314), (0, 1323, 10, 1321, 0, 1322), (0, 1327, 10, 1326, 1, 51), (0, 1331, 10, 1329, 0, 1330), (1, 1418, 10, 1417, 2, 0), (0, 1364, 10, 1363, 1, 57), (0, 1347, 10, 1346, 1, 54), (0, 1343, 10, 1342, 1, 53), (0, 1380, 10, 1379, 1, 61), (0, 1356, 10, 1355, 1, 56), (0, 1452, 10, 1451, 1, 73), (0, 1415, 10, 1414, 1, 69), (0, 1411, 10, 1410, 1, 68), (0, 1376, 10, 1375, 1, 60), (0, 1407, 10, 1406, 1, 67), (0, 1403, 10, 1402, 1, 66), (0, 1399, 10, 1398, 1, 65), (0, 1439, 10, 1438, 1, 71), (0, 1395, 10, 1394, 1, 64), (0, 1435, 10, 1434, 1, 70), (0, 1390, 10, 1389, 1, 63), (0, 1386, 10, 1385, 1, 62), (0, 1372, 10, 1371, 1, 59), (0, 1368, 10, 1367, 1, 58), (0, 1351, 10, 1350, 1, 55), (0, 1447, 10, 1446, 1, 72), (0, 1456, 10, 1455, 1, 74), (0, 1339, 10, 1338, 1, 52), (0, 1335, 10, 1333, 0, 1334), (0, 1462, 10, 1460, 0, 1461), (1, 1492, 10, 1491, 2, 0), (1, 1489, 10, 1488, 2, 0), (0, 1486, 10, 1485, 1, 79), (0, 1478, 10, 1477, 1, 77), (0, 1482, 10, 1481, 1, 78), (0, 1470, 10, 1469, 1, 75), (0, 1474, 10, 1473, 1, 76), (0, 1466, 10, 1464, 0, 1465), (0, 1496, 10, 1494, 0, 1495), (0, 1506, 10, 1505, 1, 80), (0, 1502, 10, 1500, 0, 1501), (0, 1514, 10, 1513, 1, 81), (0, 1510, 10, 1508, 0, 1509), (0, 1520, 10, 1518, 0, 1519), (0, 1524, 10, 1522, 0, 1523), (0, 1533, 10, 1531, 0, 1532), (0, 1537, 10, 1535, 0, 1536), (0, 1545, 10, 1544, 1, 82), (0, 1541, 10, 1539, 0, 1540), (0, 1553, 10, 1552, 1, 83), (0, 1549, 10, 1547, 0, 1548), (0, 1557, 10, 1555, 0, 1556), (0, 1562, 10, 1560, 0, 1561), (0, 1570, 10, 1569, 1, 84), (0, 1566, 10, 1564, 0, 1565), (1, 1577, 10, 1576, 2, 0), (0, 1574, 10, 1572, 0, 1573), (0, 1587, 10, 1586, 1, 85), (0, 1582, 10, 1580, 0, 1581), (0, 1600, 10, 1599, 1, 87), (0, 1596, 10, 1595, 1, 86), (0, 1591, 10, 1589, 0, 1590), (0, 1604, 10, 1602, 0, 1603), (0, 1609, 10, 1607, 0, 1608), (0, 1615, 10, 1613, 0, 1614), (0, 1628, 10, 1627, 1, 89), (0, 1624, 10, 1623, 1, 88), (0, 1620, 10, 1618, 0, 1619), (0, 1632, 10, 1630, 0, 1631)]
def jkd (J : Nat) : Nat := (jpt.getD J (9, 0, 0, 0, 0, 0)).1
def jck (J : Nat) (e : Nat × Nat × Nat × Nat × Nat × Nat) : Bool :=
  decide (tables_1[e.2.2.1]? = some (.initialized (mt J).2.1.cls)) &&
  (if e.1 = 1 then decide (tables_1[e.2.2.2.1]? = some (.static (mt J).2.1)) else decide (tables_1[e.2.2.2.1]? = some (.instanceMethod (mt J).2.1))) &&
  (if e.1 = 0 then (if e.2.2.2.2.1 = 0 then decide (tables_1[e.2.2.2.2.2]? = some (.selects (mt J).2.1.cls (mt J).2.1 (mt J).2.1)) else decide ((k2_sels lw_privs)[e.2.2.2.2.2]? = some (.selects (mt J).2.1.cls (mt J).2.1 (mt J).2.1))) else true) &&
  (if e.1 = 2 then decide ((mt J).2.1.name = "<init>") else true) &&
  plainName (mt J).2.1.cls && decide ((mt J).2.1.cls = RF (mt J).1) && decide ((mt J).1 < 12) && decide ((mt J).2.1.cls ≠ "java/lang/invoke/MethodHandle") && decide ((mt J).2.1.cls ≠ "java/lang/invoke/VarHandle")
theorem tin1 {w : Cond} (h : w ∈ tables_1_1) : w ∈ tables_1 := List.mem_append_left _ h
theorem tin2 {w : Cond} (h : w ∈ tables_1_2) : w ∈ tables_1 := List.mem_append_right _ (List.mem_append_left _ h)
theorem tin3 {w : Cond} (h : w ∈ tables_1_3) : w ∈ tables_1 := List.mem_append_right _ (List.mem_append_right _ (List.mem_append_left _ h))
theorem tin4 {w : Cond} (h : w ∈ tables_1_4) : w ∈ tables_1 := List.mem_append_right _ (List.mem_append_right _ (List.mem_append_right _ (List.mem_append_left _ h)))
theorem tin5 {w : Cond} (h : w ∈ tables_1_5) : w ∈ tables_1 := List.mem_append_right _ (List.mem_append_right _ (List.mem_append_right _ (List.mem_append_right _ (List.mem_append_left _ h))))
theorem tin6 {w : Cond} (h : w ∈ tables_1_6) : w ∈ tables_1 := List.mem_append_right _ (List.mem_append_right _ (List.mem_append_right _ (List.mem_append_right _ (List.mem_append_right _ (List.mem_append_left _ h)))))
theorem tin7 {w : Cond} (h : w ∈ tables_1_7) : w ∈ tables_1 := List.mem_append_right _ (List.mem_append_right _ (List.mem_append_right _ (List.mem_append_right _ (List.mem_append_right _ (List.mem_append_right _ (h))))))
theorem jc0 : Cond.code yX0_init cX0_init 5 none ∈ tables_1 := tin3 (List.mem_of_getElem? (i := 217) rfl)
theorem jc1 : Cond.code yX1_init cX1_init 1 none ∈ tables_1 := tin2 (List.mem_of_getElem? (i := 61) rfl)
theorem jc2 : Cond.code yX1_turnTo cX1_turnTo 3 none ∈ tables_1 := tin4 (List.mem_of_getElem? (i := 34) rfl)
theorem jc3 : Cond.code yX1_holds cX1_holds 4 (some .boolean) ∈ tables_1 := tin4 (List.mem_of_getElem? (i := 46) rfl)
theorem jc4 : Cond.code yX1_goOn cX1_goOn 3 (some .int) ∈ tables_1 := tin4 (List.mem_of_getElem? (i := 50) rfl)
theorem jc5 : Cond.code yX1_valueOf cX1_valueOf 3 (some .int) ∈ tables_1 := tin4 (List.mem_of_getElem? (i := 54) rfl)
theorem jc6 : Cond.code yX1_joined cX1_joined 3 (some .int) ∈ tables_1 := tin4 (List.mem_of_getElem? (i := 58) rfl)
theorem jc7 : Cond.code yX1_allWhenHold cX1_allWhenHold 4 (some .boolean) ∈ tables_1 := tin4 (List.mem_of_getElem? (i := 42) rfl)
theorem jc8 : Cond.code yX1_chanceOf cX1_chanceOf 5 (some .int) ∈ tables_1 := tin4 (List.mem_of_getElem? (i := 70) rfl)
theorem jc9 : Cond.code yX1_weightOf cX1_weightOf 7 (some .long) ∈ tables_1 := tin4 (List.mem_of_getElem? (i := 79) rfl)
theorem jc10 : Cond.code yX1_priorOf cX1_priorOf 2 (some .int) ∈ tables_1 := tin4 (List.mem_of_getElem? (i := 83) rfl)
theorem jc11 : Cond.code yX2_init cX2_init 2 none ∈ tables_1 := tin2 (List.mem_of_getElem? (i := 19) rfl)
theorem jc12 : Cond.code yX2_faultFound cX2_faultFound 1 (some .int) ∈ tables_1 := tin4 (List.mem_of_getElem? (i := 17) rfl)
theorem jc13 : Cond.code yX2_read cX2_read 3 (some (.object "TreacleTank$Text")) ∈ tables_1 := tin3 (List.mem_of_getElem? (i := 41) rfl)
theorem jc14 : Cond.code yX2_readClause cX2_readClause 5 (some .boolean) ∈ tables_1 := tin3 (List.mem_of_getElem? (i := 154) rfl)
theorem jc15 : Cond.code yX2_mayBegin cX2_mayBegin 2 (some .boolean) ∈ tables_1 := tin3 (List.mem_of_getElem? (i := 161) rfl)
theorem jc16 : Cond.code yX2_readHead cX2_readHead 2 (some .boolean) ∈ tables_1 := tin3 (List.mem_of_getElem? (i := 169) rfl)
theorem jc17 : Cond.code yX2_keepClause cX2_keepClause 3 none ∈ tables_1 := tin3 (List.mem_of_getElem? (i := 210) rfl)
theorem jc18 : Cond.code yX2_readNumber cX2_readNumber 3 (some .boolean) ∈ tables_1 := tin3 (List.mem_of_getElem? (i := 173) rfl)
theorem jc19 : Cond.code yX2_readTest cX2_readTest 5 (some .boolean) ∈ tables_1 := tin3 (List.mem_of_getElem? (i := 190) rfl)
theorem jc20 : Cond.code yX2_readFact cX2_readFact 3 (some .boolean) ∈ tables_1 := tin3 (List.mem_of_getElem? (i := 194) rfl)
theorem jc21 : Cond.code yX2_readComparison cX2_readComparison 4 (some .boolean) ∈ tables_1 := tin3 (List.mem_of_getElem? (i := 198) rfl)
theorem jc22 : Cond.code yX2_readValue cX2_readValue 2 (some .boolean) ∈ tables_1 := tin3 (List.mem_of_getElem? (i := 202) rfl)
theorem jc23 : Cond.code yX2_putStep cX2_putStep 2 none ∈ tables_1 := tin3 (List.mem_of_getElem? (i := 206) rfl)
theorem jc24 : Cond.code yX2_kind cX2_kind 1 (some .int) ∈ tables_1 := tin3 (List.mem_of_getElem? (i := 158) rfl)
theorem jc25 : Cond.code yX2_value cX2_value 1 (some .int) ∈ tables_1 := tin3 (List.mem_of_getElem? (i := 177) rfl)
theorem jc26 : Cond.code yX2_passes cX2_passes 2 (some .boolean) ∈ tables_1 := tin3 (List.mem_of_getElem? (i := 186) rfl)
theorem jc27 : Cond.code yX2_expect cX2_expect 2 (some .boolean) ∈ tables_1 := tin3 (List.mem_of_getElem? (i := 182) rfl)
theorem jc28 : Cond.code yX2_refuse cX2_refuse 3 (some .boolean) ∈ tables_1 := tin3 (List.mem_of_getElem? (i := 165) rfl)
theorem jc29 : Cond.code yX3_init cX3_init 1 none ∈ tables_1 := tin1 (List.mem_of_getElem? (i := 44) rfl)
theorem jc30 : Cond.code yX3_shape cX3_shape 4 none ∈ tables_1 := tin2 (List.mem_of_getElem? (i := 130) rfl)
theorem jc31 : Cond.code yX3_makeOf cX3_makeOf 4 none ∈ tables_1 := tin2 (List.mem_of_getElem? (i := 134) rfl)
theorem jc32 : Cond.code yX3_hold cX3_hold 3 none ∈ tables_1 := tin2 (List.mem_of_getElem? (i := 138) rfl)
theorem jc33 : Cond.code yX3_copyFrom cX3_copyFrom 2 none ∈ tables_1 := tin5 (List.mem_of_getElem? (i := 23) rfl)
theorem jc34 : Cond.code yX4_init cX4_init 2 none ∈ tables_1 := tin1 (List.mem_of_getElem? (i := 31) rfl)
theorem jc35 : Cond.code yX4_copyFrom cX4_copyFrom 2 none ∈ tables_1 := tin5 (List.mem_of_getElem? (i := 13) rfl)
theorem jc36 : Cond.code yX5_init cX5_init 2 none ∈ tables_1 := tin1 (List.mem_of_getElem? (i := 153) rfl)
theorem jc37 : Cond.code yX5_copyFrom cX5_copyFrom 2 none ∈ tables_1 := tin5 (List.mem_of_getElem? (i := 30) rfl)
theorem jc38 : Cond.code yX5_changeGround cX5_changeGround 4 (some .int) ∈ tables_1 := tin4 (List.mem_of_getElem? (i := 182) rfl)
theorem jc39 : Cond.code yX5_startWave cX5_startWave 6 none ∈ tables_1 := tin4 (List.mem_of_getElem? (i := 192) rfl)
theorem jc40 : Cond.code yX5_passMinutes cX5_passMinutes 3 (some .int) ∈ tables_1 := tin4 (List.mem_of_getElem? (i := 205) rfl)
theorem jc41 : Cond.code yX5_flow cX5_flow 4 none ∈ tables_1 := tin4 (List.mem_of_getElem? (i := 209) rfl)
theorem jc42 : Cond.code yX5_goOver cX5_goOver 6 none ∈ tables_1 := tin4 (List.mem_of_getElem? (i := 213) rfl)
theorem jc43 : Cond.code yX5_leaveStains cX5_leaveStains 2 none ∈ tables_1 := tin4 (List.mem_of_getElem? (i := 196) rfl)
theorem jc44 : Cond.code yX5_ofPlace cX5_ofPlace 3 (some .int) ∈ tables_1 := tin4 (List.mem_of_getElem? (i := 222) rfl)
theorem jc45 : Cond.code yX6_init cX6_init 2 none ∈ tables_1 := tin1 (List.mem_of_getElem? (i := 37) rfl)
theorem jc46 : Cond.code yX6_startAnew cX6_startAnew 6 none ∈ tables_1 := tin2 (List.mem_of_getElem? (i := 113) rfl)
theorem jc47 : Cond.code yX6_copyFrom cX6_copyFrom 3 none ∈ tables_1 := tin5 (List.mem_of_getElem? (i := 17) rfl)
theorem jc48 : Cond.code yX6_hasRing cX6_hasRing 2 (some .boolean) ∈ tables_1 := tin3 (List.mem_of_getElem? (i := 1) rfl)
theorem jc49 : Cond.code yX6_hasBeen cX6_hasBeen 2 (some .boolean) ∈ tables_1 := tin4 (List.mem_of_getElem? (i := 157) rfl)
theorem jc50 : Cond.code yX6_hasBurst cX6_hasBurst 1 (some .boolean) ∈ tables_1 := tin2 (List.mem_of_getElem? (i := 126) rfl)
theorem jc51 : Cond.code yX6_nextRing cX6_nextRing 1 (some (.object "TreacleTank$Ring")) ∈ tables_1 := tin2 (List.mem_of_getElem? (i := 122) rfl)
theorem jc52 : Cond.code yX6_raise cX6_raise 2 (some .int) ∈ tables_1 := tin2 (List.mem_of_getElem? (i := 142) rfl)
theorem jc53 : Cond.code yX6_addLayer cX6_addLayer 3 (some .int) ∈ tables_1 := tin2 (List.mem_of_getElem? (i := 157) rfl)
theorem jc54 : Cond.code yX6_drawOff cX6_drawOff 6 (some .int) ∈ tables_1 := tin2 (List.mem_of_getElem? (i := 188) rfl)
theorem jc55 : Cond.code yX6_changeAir cX6_changeAir 3 (some .int) ∈ tables_1 := tin2 (List.mem_of_getElem? (i := 196) rfl)
theorem jc56 : Cond.code yX6_passHours cX6_passHours 3 (some .int) ∈ tables_1 := tin2 (List.mem_of_getElem? (i := 204) rfl)
theorem jc57 : Cond.code yX6_mixHeat cX6_mixHeat 3 none ∈ tables_1 := tin2 (List.mem_of_getElem? (i := 209) rfl)
theorem jc58 : Cond.code yX6_workGas cX6_workGas 2 none ∈ tables_1 := tin2 (List.mem_of_getElem? (i := 213) rfl)
theorem jc59 : Cond.code yX6_bearOrBurst cX6_bearOrBurst 2 none ∈ tables_1 := tin2 (List.mem_of_getElem? (i := 161) rfl)
theorem jc60 : Cond.code yX6_seekBurst cX6_seekBurst 2 none ∈ tables_1 := tin2 (List.mem_of_getElem? (i := 165) rfl)
theorem jc61 : Cond.code yX6_loadOf cX6_loadOf 2 (some .int) ∈ tables_1 := tin2 (List.mem_of_getElem? (i := 146) rfl)
theorem jc62 : Cond.code yX6_fullLoadOf cX6_fullLoadOf 2 (some .int) ∈ tables_1 := tin4 (List.mem_of_getElem? (i := 140) rfl)
theorem jc63 : Cond.code yX6_steelOf cX6_steelOf 4 (some .int) ∈ tables_1 := tin2 (List.mem_of_getElem? (i := 177) rfl)
theorem jc64 : Cond.code yX6_plateOf cX6_plateOf 4 (some .int) ∈ tables_1 := tin2 (List.mem_of_getElem? (i := 173) rfl)
theorem jc65 : Cond.code yX6_bearsOf cX6_bearsOf 2 (some .int) ∈ tables_1 := tin2 (List.mem_of_getElem? (i := 169) rfl)
theorem jc66 : Cond.code yX6_number cX6_number 2 (some .int) ∈ tables_1 := tin2 (List.mem_of_getElem? (i := 221) rfl)
theorem jc67 : Cond.code yX6_ofLayer cX6_ofLayer 3 (some .int) ∈ tables_1 := tin2 (List.mem_of_getElem? (i := 229) rfl)
theorem jc68 : Cond.code yX6_ofRing cX6_ofRing 4 (some .int) ∈ tables_1 := tin2 (List.mem_of_getElem? (i := 237) rfl)
theorem jc69 : Cond.code yX6_nearestRing cX6_nearestRing 3 (some .int) ∈ tables_1 := tin3 (List.mem_of_getElem? (i := 9) rfl)
theorem jc70 : Cond.code yX6_isNearer cX6_isNearer 11 (some .boolean) ∈ tables_1 := tin3 (List.mem_of_getElem? (i := 13) rfl)
theorem jc71 : Cond.code yX6_tooWeakFor cX6_tooWeakFor 6 (some .int) ∈ tables_1 := tin4 (List.mem_of_getElem? (i := 116) rfl)
theorem jc72 : Cond.code yX6_feetNeeded cX6_feetNeeded 6 (some .int) ∈ tables_1 := tin4 (List.mem_of_getElem? (i := 124) rfl)
theorem jc73 : Cond.code yX6_coinsNeeded cX6_coinsNeeded 4 (some .int) ∈ tables_1 := tin4 (List.mem_of_getElem? (i := 132) rfl)
theorem jc74 : Cond.code yX6_thicknessNeeded cX6_thicknessNeeded 2 (some .int) ∈ tables_1 := tin4 (List.mem_of_getElem? (i := 148) rfl)
theorem jc75 : Cond.code yX6_leastThicker cX6_leastThicker 7 (some .int) ∈ tables_1 := tin4 (List.mem_of_getElem? (i := 136) rfl)
theorem jc76 : Cond.code yX6_tellWords cX6_tellWords 4 none ∈ tables_1 := tin4 (List.mem_of_getElem? (i := 38) rfl)
theorem jc77 : Cond.code yX7_init cX7_init 1 none ∈ tables_1 := tin1 (List.mem_of_getElem? (i := 229) rfl)
theorem jc78 : Cond.code yX7_hasRoom cX7_hasRoom 1 (some .boolean) ∈ tables_1 := tin3 (List.mem_of_getElem? (i := 21) rfl)
theorem jc79 : Cond.code yX7_take cX7_take 3 none ∈ tables_1 := tin3 (List.mem_of_getElem? (i := 25) rfl)
theorem jc80 : Cond.code yX7_cut cX7_cut 2 (some .boolean) ∈ tables_1 := tin3 (List.mem_of_getElem? (i := 33) rfl)
theorem jc81 : Cond.code yX7_scan cX7_scan 3 none ∈ tables_1 := tin3 (List.mem_of_getElem? (i := 45) rfl)
theorem jc82 : Cond.code yX7_scanToken cX7_scanToken 4 (some .int) ∈ tables_1 := tin3 (List.mem_of_getElem? (i := 49) rfl)
theorem jc83 : Cond.code yX7_scanNumber cX7_scanNumber 4 (some .int) ∈ tables_1 := tin3 (List.mem_of_getElem? (i := 56) rfl)
theorem jc84 : Cond.code yX7_scanWord cX7_scanWord 5 (some .int) ∈ tables_1 := tin3 (List.mem_of_getElem? (i := 67) rfl)
theorem jc85 : Cond.code yX7_spells cX7_spells 5 (some .boolean) ∈ tables_1 := tin3 (List.mem_of_getElem? (i := 99) rfl)
theorem jc86 : Cond.code yX7_putToken cX7_putToken 4 none ∈ tables_1 := tin3 (List.mem_of_getElem? (i := 60) rfl)
theorem jc87 : Cond.code yX7_isDigit cX7_isDigit 1 (some .boolean) ∈ tables_1 := tin3 (List.mem_of_getElem? (i := 52) rfl)
theorem jc88 : Cond.code yX7_isSmall cX7_isSmall 1 (some .boolean) ∈ tables_1 := tin3 (List.mem_of_getElem? (i := 63) rfl)
theorem jc89 : Cond.code yX7_kindOfSign cX7_kindOfSign 1 (some .int) ∈ tables_1 := tin3 (List.mem_of_getElem? (i := 150) rfl)
theorem jc90 : Cond.code yX7_wordOf cX7_wordOf 1 (some (.object "java/lang/String")) ∈ tables_1 := tin3 (List.mem_of_getElem? (i := 70) rfl)
theorem jc91 : Cond.code yX7_valueWordOf cX7_valueWordOf 1 (some (.object "java/lang/String")) ∈ tables_1 := tin3 (List.mem_of_getElem? (i := 82) rfl)
theorem jc92 : Cond.code yX8_init cX8_init 5 none ∈ tables_1 := tin4 (List.mem_of_getElem? (i := 3) rfl)
theorem jc93 : Cond.code yX9_init cX9_init 1 none ∈ tables_1 := tin1 (List.mem_of_getElem? (i := 187) rfl)
theorem jc94 : Cond.code yX9_copyFrom cX9_copyFrom 2 none ∈ tables_1 := tin5 (List.mem_of_getElem? (i := 35) rfl)
theorem jc95 : Cond.code yX9_ask cX9_ask 4 (some .int) ∈ tables_1 := tin4 (List.mem_of_getElem? (i := 230) rfl)
theorem jc96 : Cond.code yX9_leanOf cX9_leanOf 13 (some .int) ∈ tables_1 := tin4 (List.mem_of_getElem? (i := 238) rfl)
theorem jc97 : Cond.code yX9_commonDivisor cX9_commonDivisor 6 (some .int) ∈ tables_1 := tin5 (List.mem_of_getElem? (i := 5) rfl)
theorem jc98 : Cond.code yX10_init cX10_init 1 none ∈ tables_1 := tin1 (List.mem_of_getElem? (i := 23) rfl)
theorem jc99 : Cond.code yX10_begin cX10_begin 8 (some .boolean) ∈ tables_1 := tin2 (List.mem_of_getElem? (i := 106) rfl)
theorem jc100 : Cond.code yX10_ring cX10_ring 13 (some .int) ∈ tables_1 := tin2 (List.mem_of_getElem? (i := 117) rfl)
theorem jc101 : Cond.code yX10_pour cX10_pour 3 (some .int) ∈ tables_1 := tin2 (List.mem_of_getElem? (i := 153) rfl)
theorem jc102 : Cond.code yX10_draw cX10_draw 2 (some .int) ∈ tables_1 := tin2 (List.mem_of_getElem? (i := 184) rfl)
theorem jc103 : Cond.code yX10_air cX10_air 2 (some .int) ∈ tables_1 := tin2 (List.mem_of_getElem? (i := 192) rfl)
theorem jc104 : Cond.code yX10_hours cX10_hours 2 (some .int) ∈ tables_1 := tin2 (List.mem_of_getElem? (i := 200) rfl)
theorem jc105 : Cond.code yX10_count cX10_count 2 (some .int) ∈ tables_1 := tin2 (List.mem_of_getElem? (i := 217) rfl)
theorem jc106 : Cond.code yX10_layer cX10_layer 3 (some .int) ∈ tables_1 := tin2 (List.mem_of_getElem? (i := 225) rfl)
theorem jc107 : Cond.code yX10_told cX10_told 3 (some .int) ∈ tables_1 := tin2 (List.mem_of_getElem? (i := 233) rfl)
theorem jc108 : Cond.code yX10_nearest cX10_nearest 1 (some .int) ∈ tables_1 := tin3 (List.mem_of_getElem? (i := 5) rfl)
theorem jc109 : Cond.code yX10_feed cX10_feed 6 (some .int) ∈ tables_1 := tin3 (List.mem_of_getElem? (i := 17) rfl)
theorem jc110 : Cond.code yX10_end cX10_end 2 (some .int) ∈ tables_1 := tin3 (List.mem_of_getElem? (i := 29) rfl)
theorem jc111 : Cond.code yX10_story cX10_story 2 (some .int) ∈ tables_1 := tin3 (List.mem_of_getElem? (i := 37) rfl)
theorem jc112 : Cond.code yX10_rule cX10_rule 2 (some .int) ∈ tables_1 := tin4 (List.mem_of_getElem? (i := 21) rfl)
theorem jc113 : Cond.code yX10_fits cX10_fits 3 (some .int) ∈ tables_1 := tin4 (List.mem_of_getElem? (i := 25) rfl)
theorem jc114 : Cond.code yX10_trace cX10_trace 4 (some .int) ∈ tables_1 := tin4 (List.mem_of_getElem? (i := 62) rfl)
theorem jc115 : Cond.code yX10_chance cX10_chance 4 (some .int) ∈ tables_1 := tin4 (List.mem_of_getElem? (i := 66) rfl)
theorem jc116 : Cond.code yX10_weight cX10_weight 3 (some .long) ∈ tables_1 := tin4 (List.mem_of_getElem? (i := 74) rfl)
theorem jc117 : Cond.code yX10_odds cX10_odds 6 (some .int) ∈ tables_1 := tin4 (List.mem_of_getElem? (i := 90) rfl)
theorem jc118 : Cond.code yX10_made cX10_made 6 (some .int) ∈ tables_1 := tin4 (List.mem_of_getElem? (i := 95) rfl)
theorem jc119 : Cond.code yX10_span cX10_span 3 (some .int) ∈ tables_1 := tin4 (List.mem_of_getElem? (i := 108) rfl)
theorem jc120 : Cond.code yX10_trial cX10_trial 3 (some .int) ∈ tables_1 := tin4 (List.mem_of_getElem? (i := 112) rfl)
theorem jc121 : Cond.code yX10_needed cX10_needed 3 (some .int) ∈ tables_1 := tin4 (List.mem_of_getElem? (i := 120) rfl)
theorem jc122 : Cond.code yX10_more cX10_more 1 (some .int) ∈ tables_1 := tin4 (List.mem_of_getElem? (i := 128) rfl)
theorem jc123 : Cond.code yX10_thicker cX10_thicker 2 (some .int) ∈ tables_1 := tin4 (List.mem_of_getElem? (i := 144) rfl)
theorem jc124 : Cond.code yX10_look cX10_look 3 (some .boolean) ∈ tables_1 := tin4 (List.mem_of_getElem? (i := 153) rfl)
theorem jc125 : Cond.code yX10_owed cX10_owed 4 (some .int) ∈ tables_1 := tin4 (List.mem_of_getElem? (i := 162) rfl)
theorem jc126 : Cond.code yX10_ground cX10_ground 4 (some .int) ∈ tables_1 := tin4 (List.mem_of_getElem? (i := 175) rfl)
theorem jc127 : Cond.code yX10_wave cX10_wave 7 (some .boolean) ∈ tables_1 := tin4 (List.mem_of_getElem? (i := 187) rfl)
theorem jc128 : Cond.code yX10_minutes cX10_minutes 2 (some .int) ∈ tables_1 := tin4 (List.mem_of_getElem? (i := 201) rfl)
theorem jc129 : Cond.code yX10_place cX10_place 4 (some .int) ∈ tables_1 := tin4 (List.mem_of_getElem? (i := 218) rfl)
theorem jc130 : Cond.code yX10_witness cX10_witness 4 (some .int) ∈ tables_1 := tin4 (List.mem_of_getElem? (i := 226) rfl)
theorem jc131 : Cond.code yX10_lean cX10_lean 7 (some .int) ∈ tables_1 := tin4 (List.mem_of_getElem? (i := 234) rfl)
theorem jc132 : Cond.code yX10_mark cX10_mark 2 (some .int) ∈ tables_1 := tin5 (List.mem_of_getElem? (i := 9) rfl)
theorem jc133 : Cond.code yX10_back cX10_back 2 (some .int) ∈ tables_1 := tin5 (List.mem_of_getElem? (i := 41) rfl)
theorem jc134 : Cond.code yX10_areThere cX10_areThere 3 (some .boolean) ∈ tables_1 := tin4 (List.mem_of_getElem? (i := 29) rfl)
theorem jc135 : Cond.code yX10_timesAsSeen cX10_timesAsSeen 10 (some .int) ∈ tables_1 := tin4 (List.mem_of_getElem? (i := 99) rfl)
theorem jc136 : Cond.code yX10_menNamedBy cX10_menNamedBy 5 (some .int) ∈ tables_1 := tin4 (List.mem_of_getElem? (i := 166) rfl)
theorem jc137 : Cond.code yX10_isLate cX10_isLate 4 (some .boolean) ∈ tables_1 := tin4 (List.mem_of_getElem? (i := 170) rfl)
theorem jc138 : Cond.code yX10_isPlace cX10_isPlace 2 (some .boolean) ∈ tables_1 := tin4 (List.mem_of_getElem? (i := 178) rfl)
theorem jc139 : Cond.code yX10_isWithin cX10_isWithin 3 (some .boolean) ∈ tables_1 := tin2 (List.mem_of_getElem? (i := 109) rfl)
theorem jc140 : Cond.code yX11_init cX11_init 2 none ∈ tables_1 := tin5 (List.mem_of_getElem? (i := 46) rfl)
theorem jc141 : Cond.code yX11_in cX11_in 6 (some .boolean) ∈ tables_1 := tin6 (List.mem_of_getElem? (i := 27) rfl)
theorem jc142 : Cond.code yX11_begin cX11_begin 6 (some .boolean) ∈ tables_1 := tin6 (List.mem_of_getElem? (i := 23) rfl)
theorem jc143 : Cond.code yX11_isRing cX11_isRing 2 (some .boolean) ∈ tables_1 := tin6 (List.mem_of_getElem? (i := 111) rfl)
theorem jc144 : Cond.code yX11_lower cX11_lower 4 (some .int) ∈ tables_1 := tin6 (List.mem_of_getElem? (i := 53) rfl)
theorem jc145 : Cond.code yX11_depth cX11_depth 3 (some .int) ∈ tables_1 := tin6 (List.mem_of_getElem? (i := 45) rfl)
theorem jc146 : Cond.code yX11_loadBy cX11_loadBy 6 (some .int) ∈ tables_1 := tin6 (List.mem_of_getElem? (i := 49) rfl)
theorem jc147 : Cond.code yX11_loadOf cX11_loadOf 2 (some .int) ∈ tables_1 := tin6 (List.mem_of_getElem? (i := 41) rfl)
theorem jc148 : Cond.code yX11_steelOf cX11_steelOf 5 (some .int) ∈ tables_1 := tin6 (List.mem_of_getElem? (i := 73) rfl)
theorem jc149 : Cond.code yX11_plateBy cX11_plateBy 6 (some .int) ∈ tables_1 := tin6 (List.mem_of_getElem? (i := 69) rfl)
theorem jc150 : Cond.code yX11_bearsOf cX11_bearsOf 3 (some .int) ∈ tables_1 := tin6 (List.mem_of_getElem? (i := 65) rfl)
theorem jc151 : Cond.code yX11_stands cX11_stands 2 (some .boolean) ∈ tables_1 := tin6 (List.mem_of_getElem? (i := 61) rfl)
theorem jc152 : Cond.code yX11_stood cX11_stood 3 none ∈ tables_1 := tin6 (List.mem_of_getElem? (i := 77) rfl)
theorem jc153 : Cond.code yX11_ring cX11_ring 9 (some .int) ∈ tables_1 := tin6 (List.mem_of_getElem? (i := 33) rfl)
theorem jc154 : Cond.code yX11_pour cX11_pour 3 (some .int) ∈ tables_1 := tin6 (List.mem_of_getElem? (i := 57) rfl)
theorem jc155 : Cond.code yX11_draw cX11_draw 5 (some .int) ∈ tables_1 := tin6 (List.mem_of_getElem? (i := 81) rfl)
theorem jc156 : Cond.code yX11_air cX11_air 3 (some .int) ∈ tables_1 := tin6 (List.mem_of_getElem? (i := 85) rfl)
theorem jc157 : Cond.code yX11_hour cX11_hour 3 none ∈ tables_1 := tin6 (List.mem_of_getElem? (i := 95) rfl)
theorem jc158 : Cond.code yX11_hours cX11_hours 3 (some .int) ∈ tables_1 := tin6 (List.mem_of_getElem? (i := 89) rfl)
theorem jc159 : Cond.code yX11_count cX11_count 2 (some .int) ∈ tables_1 := tin6 (List.mem_of_getElem? (i := 99) rfl)
theorem jc160 : Cond.code yX11_layer cX11_layer 3 (some .int) ∈ tables_1 := tin6 (List.mem_of_getElem? (i := 103) rfl)
theorem jc161 : Cond.code yX11_told cX11_told 3 (some .int) ∈ tables_1 := tin6 (List.mem_of_getElem? (i := 107) rfl)
theorem jc162 : Cond.code yX11_isNearer cX11_isNearer 5 (some .boolean) ∈ tables_1 := tin6 (List.mem_of_getElem? (i := 119) rfl)
theorem jc163 : Cond.code yX11_nearest cX11_nearest 3 (some .int) ∈ tables_1 := tin6 (List.mem_of_getElem? (i := 115) rfl)
theorem jc164 : Cond.code yX11_feed cX11_feed 6 (some .int) ∈ tables_1 := tin6 (List.mem_of_getElem? (i := 123) rfl)
theorem jc165 : Cond.code yX11_put cX11_put 3 none ∈ tables_1 := tin6 (List.mem_of_getElem? (i := 127) rfl)
theorem jc166 : Cond.code yX11_end cX11_end 2 (some .int) ∈ tables_1 := tin6 (List.mem_of_getElem? (i := 131) rfl)
theorem jc167 : Cond.code yX11_wordOf cX11_wordOf 1 (some (.object "java/lang/String")) ∈ tables_1 := tin6 (List.mem_of_getElem? (i := 218) rfl)
theorem jc168 : Cond.code yX11_fails cX11_fails 3 none ∈ tables_1 := tin6 (List.mem_of_getElem? (i := 164) rfl)
theorem jc169 : Cond.code yX11_sign cX11_sign 1 (some .int) ∈ tables_1 := tin6 (List.mem_of_getElem? (i := 147) rfl)
theorem jc170 : Cond.code yX11_blanks cX11_blanks 1 none ∈ tables_1 := tin6 (List.mem_of_getElem? (i := 143) rfl)
theorem jc171 : Cond.code yX11_isDigit cX11_isDigit 1 (some .boolean) ∈ tables_1 := tin6 (List.mem_of_getElem? (i := 180) rfl)
theorem jc172 : Cond.code yX11_stands_ cX11_stands_ 5 (some .boolean) ∈ tables_1 := tin6 (List.mem_of_getElem? (i := 156) rfl)
theorem jc173 : Cond.code yX11_takes cX11_takes 3 (some .boolean) ∈ tables_1 := tin7 (List.mem_of_getElem? (i := 12) rfl)
theorem jc174 : Cond.code yX11_entry cX11_entry 3 none ∈ tables_1 := tin6 (List.mem_of_getElem? (i := 215) rfl)
theorem jc175 : Cond.code yX11_isCounted cX11_isCounted 2 none ∈ tables_1 := tin6 (List.mem_of_getElem? (i := 211) rfl)
theorem jc176 : Cond.code yX11_digits cX11_digits 4 (some .int) ∈ tables_1 := tin6 (List.mem_of_getElem? (i := 176) rfl)
theorem jc177 : Cond.code yX11_value cX11_value 3 none ∈ tables_1 := tin6 (List.mem_of_getElem? (i := 207) rfl)
theorem jc178 : Cond.code yX11_sum cX11_sum 2 none ∈ tables_1 := tin6 (List.mem_of_getElem? (i := 203) rfl)
theorem jc179 : Cond.code yX11_compared cX11_compared 3 none ∈ tables_1 := tin6 (List.mem_of_getElem? (i := 199) rfl)
theorem jc180 : Cond.code yX11_top cX11_top 1 (some .int) ∈ tables_1 := tin6 (List.mem_of_getElem? (i := 239) rfl)
theorem jc181 : Cond.code yX11_opens cX11_opens 2 none ∈ tables_1 := tin6 (List.mem_of_getElem? (i := 195) rfl)
theorem jc182 : Cond.code yX11_answers cX11_answers 2 none ∈ tables_1 := tin6 (List.mem_of_getElem? (i := 235) rfl)
theorem jc183 : Cond.code yX11_fact cX11_fact 1 (some .boolean) ∈ tables_1 := tin6 (List.mem_of_getElem? (i := 190) rfl)
theorem jc184 : Cond.code yX11_test cX11_test 5 none ∈ tables_1 := tin6 (List.mem_of_getElem? (i := 186) rfl)
theorem jc185 : Cond.code yX11_amount cX11_amount 5 (some .int) ∈ tables_1 := tin6 (List.mem_of_getElem? (i := 172) rfl)
theorem jc186 : Cond.code yX11_hasPrior cX11_hasPrior 4 (some .boolean) ∈ tables_1 := tin6 (List.mem_of_getElem? (i := 168) rfl)
theorem jc187 : Cond.code yX11_storyClause cX11_storyClause 5 none ∈ tables_1 := tin6 (List.mem_of_getElem? (i := 151) rfl)
theorem jc188 : Cond.code yX11_ifTest cX11_ifTest 1 none ∈ tables_1 := tin7 (List.mem_of_getElem? (i := 7) rfl)
theorem jc189 : Cond.code yX11_ruleClause cX11_ruleClause 4 none ∈ tables_1 := tin7 (List.mem_of_getElem? (i := 16) rfl)
theorem jc190 : Cond.code yX11_text cX11_text 4 (some .int) ∈ tables_1 := tin6 (List.mem_of_getElem? (i := 139) rfl)
theorem jc191 : Cond.code yX11_story cX11_story 1 (some .int) ∈ tables_1 := tin6 (List.mem_of_getElem? (i := 135) rfl)
theorem jc192 : Cond.code yX11_rule cX11_rule 1 (some .int) ∈ tables_1 := tin7 (List.mem_of_getElem? (i := 22) rfl)
theorem jc193 : Cond.code yX11_truth cX11_truth 1 (some .long) ∈ tables_1 := tin7 (List.mem_of_getElem? (i := 52) rfl)
theorem jc194 : Cond.code yX11_both cX11_both 5 (some .long) ∈ tables_1 := tin7 (List.mem_of_getElem? (i := 49) rfl)
theorem jc195 : Cond.code yX11_answer cX11_answer 8 (some .long) ∈ tables_1 := tin7 (List.mem_of_getElem? (i := 46) rfl)
theorem jc196 : Cond.code yX11_looks cX11_looks 2 none ∈ tables_1 := tin7 (List.mem_of_getElem? (i := 38) rfl)
theorem jc197 : Cond.code yX11_holds cX11_holds 2 (some .boolean) ∈ tables_1 := tin7 (List.mem_of_getElem? (i := 42) rfl)
theorem jc198 : Cond.code yX11_areStory cX11_areStory 3 (some .boolean) ∈ tables_1 := tin7 (List.mem_of_getElem? (i := 30) rfl)
theorem jc199 : Cond.code yX11_isFit cX11_isFit 5 (some .boolean) ∈ tables_1 := tin7 (List.mem_of_getElem? (i := 34) rfl)
theorem jc200 : Cond.code yX11_fits cX11_fits 3 (some .int) ∈ tables_1 := tin7 (List.mem_of_getElem? (i := 26) rfl)
theorem jc201 : Cond.code yX11_trace cX11_trace 4 (some .int) ∈ tables_1 := tin7 (List.mem_of_getElem? (i := 56) rfl)
theorem jc202 : Cond.code yX11_chanceOf cX11_chanceOf 5 (some .int) ∈ tables_1 := tin7 (List.mem_of_getElem? (i := 66) rfl)
theorem jc203 : Cond.code yX11_chance cX11_chance 4 (some .int) ∈ tables_1 := tin7 (List.mem_of_getElem? (i := 62) rfl)
theorem jc204 : Cond.code yX11_weighs cX11_weighs 7 (some .long) ∈ tables_1 := tin7 (List.mem_of_getElem? (i := 74) rfl)
theorem jc205 : Cond.code yX11_weight cX11_weight 3 (some .long) ∈ tables_1 := tin7 (List.mem_of_getElem? (i := 70) rfl)
theorem jc206 : Cond.code yX11_odds cX11_odds 6 (some .int) ∈ tables_1 := tin7 (List.mem_of_getElem? (i := 80) rfl)
theorem jc207 : Cond.code yX11_made cX11_made 12 (some .int) ∈ tables_1 := tin7 (List.mem_of_getElem? (i := 84) rfl)
theorem jc208 : Cond.code yX11_span cX11_span 3 (some .int) ∈ tables_1 := tin7 (List.mem_of_getElem? (i := 93) rfl)
theorem jc209 : Cond.code yX11_trial cX11_trial 5 (some .int) ∈ tables_1 := tin7 (List.mem_of_getElem? (i := 97) rfl)
theorem jc210 : Cond.code yX11_fullLoad cX11_fullLoad 2 (some .int) ∈ tables_1 := tin7 (List.mem_of_getElem? (i := 105) rfl)
theorem jc211 : Cond.code yX11_needed cX11_needed 4 (some .int) ∈ tables_1 := tin7 (List.mem_of_getElem? (i := 101) rfl)
theorem jc212 : Cond.code yX11_moreOf cX11_moreOf 3 (some .int) ∈ tables_1 := tin7 (List.mem_of_getElem? (i := 113) rfl)
theorem jc213 : Cond.code yX11_more cX11_more 4 (some .int) ∈ tables_1 := tin7 (List.mem_of_getElem? (i := 109) rfl)
theorem jc214 : Cond.code yX11_thicker cX11_thicker 2 (some .int) ∈ tables_1 := tin7 (List.mem_of_getElem? (i := 117) rfl)
theorem jc215 : Cond.code yX11_look cX11_look 3 (some .boolean) ∈ tables_1 := tin7 (List.mem_of_getElem? (i := 122) rfl)
theorem jc216 : Cond.code yX11_isAsked cX11_isAsked 4 (some .boolean) ∈ tables_1 := tin7 (List.mem_of_getElem? (i := 130) rfl)
theorem jc217 : Cond.code yX11_owed cX11_owed 5 (some .int) ∈ tables_1 := tin7 (List.mem_of_getElem? (i := 126) rfl)
theorem jc218 : Cond.code yX11_isPlace cX11_isPlace 2 (some .boolean) ∈ tables_1 := tin7 (List.mem_of_getElem? (i := 137) rfl)
theorem jc219 : Cond.code yX11_ground cX11_ground 5 (some .int) ∈ tables_1 := tin7 (List.mem_of_getElem? (i := 134) rfl)
theorem jc220 : Cond.code yX11_stains cX11_stains 3 none ∈ tables_1 := tin7 (List.mem_of_getElem? (i := 147) rfl)
theorem jc221 : Cond.code yX11_wave cX11_wave 7 (some .boolean) ∈ tables_1 := tin7 (List.mem_of_getElem? (i := 142) rfl)
theorem jc222 : Cond.code yX11_flows cX11_flows 7 none ∈ tables_1 := tin7 (List.mem_of_getElem? (i := 160) rfl)
theorem jc223 : Cond.code yX11_minute cX11_minute 3 none ∈ tables_1 := tin7 (List.mem_of_getElem? (i := 156) rfl)
theorem jc224 : Cond.code yX11_minutes cX11_minutes 3 (some .int) ∈ tables_1 := tin7 (List.mem_of_getElem? (i := 151) rfl)
theorem jc225 : Cond.code yX11_place cX11_place 5 (some .int) ∈ tables_1 := tin7 (List.mem_of_getElem? (i := 164) rfl)
theorem jc226 : Cond.code yX11_witness cX11_witness 4 (some .int) ∈ tables_1 := tin7 (List.mem_of_getElem? (i := 169) rfl)
theorem jc227 : Cond.code yX11_lean cX11_lean 15 (some .int) ∈ tables_1 := tin7 (List.mem_of_getElem? (i := 175) rfl)
theorem jc228 : Cond.code yX11_carry cX11_carry 3 none ∈ tables_1 := tin7 (List.mem_of_getElem? (i := 188) rfl)
theorem jc229 : Cond.code yX11_carries cX11_carries 2 none ∈ tables_1 := tin7 (List.mem_of_getElem? (i := 184) rfl)
theorem jc230 : Cond.code yX11_mark cX11_mark 2 (some .int) ∈ tables_1 := tin7 (List.mem_of_getElem? (i := 180) rfl)
theorem jc231 : Cond.code yX11_back cX11_back 2 (some .int) ∈ tables_1 := tin7 (List.mem_of_getElem? (i := 192) rfl)
set_option maxRecDepth 100000 in
theorem jc_all : ∀ q ∈ mtl, q.1 < 12 → Cond.code q.2.1 q.2.2.1 q.2.2.2.1 q.2.2.2.2 ∈ tables_1 := by
  unfold mtl
  refine List.forall_mem_cons.mpr ⟨fun _ => jc0, List.forall_mem_cons.mpr ⟨fun _ => jc1, List.forall_mem_cons.mpr ⟨fun _ => jc2, List.forall_mem_cons.mpr ⟨fun _ => jc3, List.forall_mem_cons.mpr ⟨fun _ => jc4, List.forall_mem_cons.mpr ⟨fun _ => jc5, List.forall_mem_cons.mpr ⟨fun _ => jc6, List.forall_mem_cons.mpr ⟨fun _ => jc7, List.forall_mem_cons.mpr ⟨fun _ => jc8, List.forall_mem_cons.mpr ⟨fun _ => jc9, List.forall_mem_cons.mpr ⟨fun _ => jc10, List.forall_mem_cons.mpr ⟨fun _ => jc11, List.forall_mem_cons.mpr ⟨fun _ => jc12, List.forall_mem_cons.mpr ⟨fun _ => jc13, List.forall_mem_cons.mpr ⟨fun _ => jc14, List.forall_mem_cons.mpr ⟨fun _ => jc15, List.forall_mem_cons.mpr ⟨fun _ => jc16, List.forall_mem_cons.mpr ⟨fun _ => jc17, List.forall_mem_cons.mpr ⟨fun _ => jc18, List.forall_mem_cons.mpr ⟨fun _ => jc19, List.forall_mem_cons.mpr ⟨fun _ => jc20, List.forall_mem_cons.mpr ⟨fun _ => jc21, List.forall_mem_cons.mpr ⟨fun _ => jc22, List.forall_mem_cons.mpr ⟨fun _ => jc23, List.forall_mem_cons.mpr ⟨fun _ => jc24, List.forall_mem_cons.mpr ⟨fun _ => jc25, List.forall_mem_cons.mpr ⟨fun _ => jc26, List.forall_mem_cons.mpr ⟨fun _ => jc27, List.forall_mem_cons.mpr ⟨fun _ => jc28, List.forall_mem_cons.mpr ⟨fun _ => jc29, List.forall_mem_cons.mpr ⟨fun _ => jc30, List.forall_mem_cons.mpr ⟨fun _ => jc31, List.forall_mem_cons.mpr ⟨fun _ => jc32, List.forall_mem_cons.mpr ⟨fun _ => jc33, List.forall_mem_cons.mpr ⟨fun _ => jc34, List.forall_mem_cons.mpr ⟨fun _ => jc35, List.forall_mem_cons.mpr ⟨fun _ => jc36, List.forall_mem_cons.mpr ⟨fun _ => jc37, List.forall_mem_cons.mpr ⟨fun _ => jc38, List.forall_mem_cons.mpr ⟨fun _ => jc39, List.forall_mem_cons.mpr ⟨fun _ => jc40, List.forall_mem_cons.mpr ⟨fun _ => jc41, List.forall_mem_cons.mpr ⟨fun _ => jc42, List.forall_mem_cons.mpr ⟨fun _ => jc43, List.forall_mem_cons.mpr ⟨fun _ => jc44, List.forall_mem_cons.mpr ⟨fun _ => jc45, List.forall_mem_cons.mpr ⟨fun _ => jc46, List.forall_mem_cons.mpr ⟨fun _ => jc47, List.forall_mem_cons.mpr ⟨fun _ => jc48, List.forall_mem_cons.mpr ⟨fun _ => jc49, List.forall_mem_cons.mpr ⟨fun _ => jc50, List.forall_mem_cons.mpr ⟨fun _ => jc51, List.forall_mem_cons.mpr ⟨fun _ => jc52, List.forall_mem_cons.mpr ⟨fun _ => jc53, List.forall_mem_cons.mpr ⟨fun _ => jc54, List.forall_mem_cons.mpr ⟨fun _ => jc55, List.forall_mem_cons.mpr ⟨fun _ => jc56, List.forall_mem_cons.mpr ⟨fun _ => jc57, List.forall_mem_cons.mpr ⟨fun _ => jc58, List.forall_mem_cons.mpr ⟨fun _ => jc59, List.forall_mem_cons.mpr ⟨fun _ => jc60, List.forall_mem_cons.mpr ⟨fun _ => jc61, List.forall_mem_cons.mpr ⟨fun _ => jc62, List.forall_mem_cons.mpr ⟨fun _ => jc63, List.forall_mem_cons.mpr ⟨fun _ => jc64, List.forall_mem_cons.mpr ⟨fun _ => jc65, List.forall_mem_cons.mpr ⟨fun _ => jc66, List.forall_mem_cons.mpr ⟨fun _ => jc67, List.forall_mem_cons.mpr ⟨fun _ => jc68, List.forall_mem_cons.mpr ⟨fun _ => jc69, List.forall_mem_cons.mpr ⟨fun _ => jc70, List.forall_mem_cons.mpr ⟨fun _ => jc71, List.forall_mem_cons.mpr ⟨fun _ => jc72, List.forall_mem_cons.mpr ⟨fun _ => jc73, List.forall_mem_cons.mpr ⟨fun _ => jc74, List.forall_mem_cons.mpr ⟨fun _ => jc75, List.forall_mem_cons.mpr ⟨fun _ => jc76, List.forall_mem_cons.mpr ⟨fun _ => jc77, List.forall_mem_cons.mpr ⟨fun _ => jc78, List.forall_mem_cons.mpr ⟨fun _ => jc79, List.forall_mem_cons.mpr ⟨fun _ => jc80, List.forall_mem_cons.mpr ⟨fun _ => jc81, List.forall_mem_cons.mpr ⟨fun _ => jc82, List.forall_mem_cons.mpr ⟨fun _ => jc83, List.forall_mem_cons.mpr ⟨fun _ => jc84, List.forall_mem_cons.mpr ⟨fun _ => jc85, List.forall_mem_cons.mpr ⟨fun _ => jc86, List.forall_mem_cons.mpr ⟨fun _ => jc87, List.forall_mem_cons.mpr ⟨fun _ => jc88, List.forall_mem_cons.mpr ⟨fun _ => jc89, List.forall_mem_cons.mpr ⟨fun _ => jc90, List.forall_mem_cons.mpr ⟨fun _ => jc91, List.forall_mem_cons.mpr ⟨fun _ => jc92, List.forall_mem_cons.mpr ⟨fun _ => jc93, List.forall_mem_cons.mpr ⟨fun _ => jc94, List.forall_mem_cons.mpr ⟨fun _ => jc95, List.forall_mem_cons.mpr ⟨fun _ => jc96, List.forall_mem_cons.mpr ⟨fun _ => jc97, List.forall_mem_cons.mpr ⟨fun _ => jc98, List.forall_mem_cons.mpr ⟨fun _ => jc99, List.forall_mem_cons.mpr ⟨fun _ => jc100, List.forall_mem_cons.mpr ⟨fun _ => jc101, List.forall_mem_cons.mpr ⟨fun _ => jc102, List.forall_mem_cons.mpr ⟨fun _ => jc103, List.forall_mem_cons.mpr ⟨fun _ => jc104, List.forall_mem_cons.mpr ⟨fun _ => jc105, List.forall_mem_cons.mpr ⟨fun _ => jc106, List.forall_mem_cons.mpr ⟨fun _ => jc107, List.forall_mem_cons.mpr ⟨fun _ => jc108, List.forall_mem_cons.mpr ⟨fun _ => jc109, List.forall_mem_cons.mpr ⟨fun _ => jc110, List.forall_mem_cons.mpr ⟨fun _ => jc111, List.forall_mem_cons.mpr ⟨fun _ => jc112, List.forall_mem_cons.mpr ⟨fun _ => jc113, List.forall_mem_cons.mpr ⟨fun _ => jc114, List.forall_mem_cons.mpr ⟨fun _ => jc115, List.forall_mem_cons.mpr ⟨fun _ => jc116, List.forall_mem_cons.mpr ⟨fun _ => jc117, List.forall_mem_cons.mpr ⟨fun _ => jc118, List.forall_mem_cons.mpr ⟨fun _ => jc119, List.forall_mem_cons.mpr ⟨fun _ => jc120, List.forall_mem_cons.mpr ⟨fun _ => jc121, List.forall_mem_cons.mpr ⟨fun _ => jc122, List.forall_mem_cons.mpr ⟨fun _ => jc123, List.forall_mem_cons.mpr ⟨fun _ => jc124, List.forall_mem_cons.mpr ⟨fun _ => jc125, List.forall_mem_cons.mpr ⟨fun _ => jc126, List.forall_mem_cons.mpr ⟨fun _ => jc127, List.forall_mem_cons.mpr ⟨fun _ => jc128, List.forall_mem_cons.mpr ⟨fun _ => jc129, List.forall_mem_cons.mpr ⟨fun _ => jc130, List.forall_mem_cons.mpr ⟨fun _ => jc131, List.forall_mem_cons.mpr ⟨fun _ => jc132, List.forall_mem_cons.mpr ⟨fun _ => jc133, List.forall_mem_cons.mpr ⟨fun _ => jc134, List.forall_mem_cons.mpr ⟨fun _ => jc135, List.forall_mem_cons.mpr ⟨fun _ => jc136, List.forall_mem_cons.mpr ⟨fun _ => jc137, List.forall_mem_cons.mpr ⟨fun _ => jc138, List.forall_mem_cons.mpr ⟨fun _ => jc139, List.forall_mem_cons.mpr ⟨fun _ => jc140, List.forall_mem_cons.mpr ⟨fun _ => jc141, List.forall_mem_cons.mpr ⟨fun _ => jc142, List.forall_mem_cons.mpr ⟨fun _ => jc143, List.forall_mem_cons.mpr ⟨fun _ => jc144, List.forall_mem_cons.mpr ⟨fun _ => jc145, List.forall_mem_cons.mpr ⟨fun _ => jc146, List.forall_mem_cons.mpr ⟨fun _ => jc147, List.forall_mem_cons.mpr ⟨fun _ => jc148, List.forall_mem_cons.mpr ⟨fun _ => jc149, List.forall_mem_cons.mpr ⟨fun _ => jc150, List.forall_mem_cons.mpr ⟨fun _ => jc151, List.forall_mem_cons.mpr ⟨fun _ => jc152, List.forall_mem_cons.mpr ⟨fun _ => jc153, List.forall_mem_cons.mpr ⟨fun _ => jc154, List.forall_mem_cons.mpr ⟨fun _ => jc155, List.forall_mem_cons.mpr ⟨fun _ => jc156, List.forall_mem_cons.mpr ⟨fun _ => jc157, List.forall_mem_cons.mpr ⟨fun _ => jc158, List.forall_mem_cons.mpr ⟨fun _ => jc159, List.forall_mem_cons.mpr ⟨fun _ => jc160, List.forall_mem_cons.mpr ⟨fun _ => jc161, List.forall_mem_cons.mpr ⟨fun _ => jc162, List.forall_mem_cons.mpr ⟨fun _ => jc163, List.forall_mem_cons.mpr ⟨fun _ => jc164, List.forall_mem_cons.mpr ⟨fun _ => jc165, List.forall_mem_cons.mpr ⟨fun _ => jc166, List.forall_mem_cons.mpr ⟨fun _ => jc167, List.forall_mem_cons.mpr ⟨fun _ => jc168, List.forall_mem_cons.mpr ⟨fun _ => jc169, List.forall_mem_cons.mpr ⟨fun _ => jc170, List.forall_mem_cons.mpr ⟨fun _ => jc171, List.forall_mem_cons.mpr ⟨fun _ => jc172, List.forall_mem_cons.mpr ⟨fun _ => jc173, List.forall_mem_cons.mpr ⟨fun _ => jc174, List.forall_mem_cons.mpr ⟨fun _ => jc175, List.forall_mem_cons.mpr ⟨fun _ => jc176, List.forall_mem_cons.mpr ⟨fun _ => jc177, List.forall_mem_cons.mpr ⟨fun _ => jc178, List.forall_mem_cons.mpr ⟨fun _ => jc179, List.forall_mem_cons.mpr ⟨fun _ => jc180, List.forall_mem_cons.mpr ⟨fun _ => jc181, List.forall_mem_cons.mpr ⟨fun _ => jc182, List.forall_mem_cons.mpr ⟨fun _ => jc183, List.forall_mem_cons.mpr ⟨fun _ => jc184, List.forall_mem_cons.mpr ⟨fun _ => jc185, List.forall_mem_cons.mpr ⟨fun _ => jc186, List.forall_mem_cons.mpr ⟨fun _ => jc187, List.forall_mem_cons.mpr ⟨fun _ => jc188, List.forall_mem_cons.mpr ⟨fun _ => jc189, List.forall_mem_cons.mpr ⟨fun _ => jc190, List.forall_mem_cons.mpr ⟨fun _ => jc191, List.forall_mem_cons.mpr ⟨fun _ => jc192, List.forall_mem_cons.mpr ⟨fun _ => jc193, List.forall_mem_cons.mpr ⟨fun _ => jc194, List.forall_mem_cons.mpr ⟨fun _ => jc195, List.forall_mem_cons.mpr ⟨fun _ => jc196, List.forall_mem_cons.mpr ⟨fun _ => jc197, List.forall_mem_cons.mpr ⟨fun _ => jc198, List.forall_mem_cons.mpr ⟨fun _ => jc199, List.forall_mem_cons.mpr ⟨fun _ => jc200, List.forall_mem_cons.mpr ⟨fun _ => jc201, List.forall_mem_cons.mpr ⟨fun _ => jc202, List.forall_mem_cons.mpr ⟨fun _ => jc203, List.forall_mem_cons.mpr ⟨fun _ => jc204, List.forall_mem_cons.mpr ⟨fun _ => jc205, List.forall_mem_cons.mpr ⟨fun _ => jc206, List.forall_mem_cons.mpr ⟨fun _ => jc207, List.forall_mem_cons.mpr ⟨fun _ => jc208, List.forall_mem_cons.mpr ⟨fun _ => jc209, List.forall_mem_cons.mpr ⟨fun _ => jc210, List.forall_mem_cons.mpr ⟨fun _ => jc211, List.forall_mem_cons.mpr ⟨fun _ => jc212, List.forall_mem_cons.mpr ⟨fun _ => jc213, List.forall_mem_cons.mpr ⟨fun _ => jc214, List.forall_mem_cons.mpr ⟨fun _ => jc215, List.forall_mem_cons.mpr ⟨fun _ => jc216, List.forall_mem_cons.mpr ⟨fun _ => jc217, List.forall_mem_cons.mpr ⟨fun _ => jc218, List.forall_mem_cons.mpr ⟨fun _ => jc219, List.forall_mem_cons.mpr ⟨fun _ => jc220, List.forall_mem_cons.mpr ⟨fun _ => jc221, List.forall_mem_cons.mpr ⟨fun _ => jc222, List.forall_mem_cons.mpr ⟨fun _ => jc223, List.forall_mem_cons.mpr ⟨fun _ => jc224, List.forall_mem_cons.mpr ⟨fun _ => jc225, List.forall_mem_cons.mpr ⟨fun _ => jc226, List.forall_mem_cons.mpr ⟨fun _ => jc227, List.forall_mem_cons.mpr ⟨fun _ => jc228, List.forall_mem_cons.mpr ⟨fun _ => jc229, List.forall_mem_cons.mpr ⟨fun _ => jc230, List.forall_mem_cons.mpr ⟨fun _ => jc231, List.forall_mem_cons.mpr ⟨fun h => absurd h (by decide), List.forall_mem_nil _⟩⟩⟩⟩⟩⟩⟩⟩⟩⟩⟩⟩⟩⟩⟩⟩⟩⟩⟩⟩⟩⟩⟩⟩⟩⟩⟩⟩⟩⟩⟩⟩⟩⟩⟩⟩⟩⟩⟩⟩⟩⟩⟩⟩⟩⟩⟩⟩⟩⟩⟩⟩⟩⟩⟩⟩⟩⟩⟩⟩⟩⟩⟩⟩⟩⟩⟩⟩⟩⟩⟩⟩⟩⟩⟩⟩⟩⟩⟩⟩⟩⟩⟩⟩⟩⟩⟩⟩⟩⟩⟩⟩⟩⟩⟩⟩⟩⟩⟩⟩⟩⟩⟩⟩⟩⟩⟩⟩⟩⟩⟩⟩⟩⟩⟩⟩⟩⟩⟩⟩⟩⟩⟩⟩⟩⟩⟩⟩⟩⟩⟩⟩⟩⟩⟩⟩⟩⟩⟩⟩⟩⟩⟩⟩⟩⟩⟩⟩⟩⟩⟩⟩⟩⟩⟩⟩⟩⟩⟩⟩⟩⟩⟩⟩⟩⟩⟩⟩⟩⟩⟩⟩⟩⟩⟩⟩⟩⟩⟩⟩⟩⟩⟩⟩⟩⟩⟩⟩⟩⟩⟩⟩⟩⟩⟩⟩⟩⟩⟩⟩⟩⟩⟩⟩⟩⟩⟩⟩⟩⟩⟩⟩⟩⟩⟩⟩⟩⟩⟩⟩⟩⟩⟩⟩⟩⟩⟩⟩⟩⟩⟩⟩⟩
theorem jc_mt {J : Nat} (h : J < 232) (h12 : (mt J).1 < 12) : Cond.code (mt J).2.1 (mt J).2.2.1 (mt J).2.2.2.1 (mt J).2.2.2.2 ∈ gtb := by
  refine gtb_of (List.mem_append_right _ (jc_all (mt J) ?_ h12)) rfl
  unfold mt
  rw [List.getD_eq_getElem?_getD, List.getElem?_eq_getElem (show J < mtl.length from Nat.lt_trans h (by decide +kernel))]
  exact List.getElem_mem _
set_option maxRecDepth 100000 in
theorem jck_0 : ∀ J, J < 58 → 0 ≤ J → jck J (jpt.getD J (9, 0, 0, 0, 0, 0)) = true := by
  have h : ((List.range 58).drop 0).all (fun J => jck J (jpt.getD J (9, 0, 0, 0, 0, 0))) = true := by decide +kernel
  intro J h1 h2
  refine List.all_eq_true.mp h J (List.mem_iff_getElem?.mpr ⟨J - 0, ?_⟩)
  rw [List.getElem?_drop, show 0 + (J - 0) = J by omega, List.getElem?_range (by omega)]
set_option maxRecDepth 100000 in
theorem jck_58 : ∀ J, J < 116 → 58 ≤ J → jck J (jpt.getD J (9, 0, 0, 0, 0, 0)) = true := by
  have h : ((List.range 116).drop 58).all (fun J => jck J (jpt.getD J (9, 0, 0, 0, 0, 0))) = true := by decide +kernel
  intro J h1 h2
  refine List.all_eq_true.mp h J (List.mem_iff_getElem?.mpr ⟨J - 58, ?_⟩)
  rw [List.getElem?_drop, show 58 + (J - 58) = J by omega, List.getElem?_range (by omega)]
set_option maxRecDepth 100000 in
theorem jck_116 : ∀ J, J < 174 → 116 ≤ J → jck J (jpt.getD J (9, 0, 0, 0, 0, 0)) = true := by
  have h : ((List.range 174).drop 116).all (fun J => jck J (jpt.getD J (9, 0, 0, 0, 0, 0))) = true := by decide +kernel
  intro J h1 h2
  refine List.all_eq_true.mp h J (List.mem_iff_getElem?.mpr ⟨J - 116, ?_⟩)
  rw [List.getElem?_drop, show 116 + (J - 116) = J by omega, List.getElem?_range (by omega)]
set_option maxRecDepth 100000 in
theorem jck_174 : ∀ J, J < 232 → 174 ≤ J → jck J (jpt.getD J (9, 0, 0, 0, 0, 0)) = true := by
  have h : ((List.range 232).drop 174).all (fun J => jck J (jpt.getD J (9, 0, 0, 0, 0, 0))) = true := by decide +kernel
  intro J h1 h2
  refine List.all_eq_true.mp h J (List.mem_iff_getElem?.mpr ⟨J - 174, ?_⟩)
  rw [List.getElem?_drop, show 174 + (J - 174) = J by omega, List.getElem?_range (by omega)]
theorem jck_all {J : Nat} (h : J < 232) : jck J (jpt.getD J (9, 0, 0, 0, 0, 0)) = true := by
  by_cases h0 : J < 58
  · exact jck_0 J h0 (by omega)
  by_cases h1 : J < 116
  · exact jck_58 J h1 (by omega)
  by_cases h2 : J < 174
  · exact jck_116 J h2 (by omega)
  exact jck_174 J h (by omega)
def mpt : List ((Nat × Nat × Nat × Nat × Nat) × Nat) := [((12, 9, 4, 0, 98), 21), ((10, 3, 9, 0, 1200), 24), ((10, 11, 4, 0, 34), 29), ((4, 3, 9, 0, 1200), 32), ((4, 11, 4, 0, 45), 35), ((6, 3, 9, 0, 1200), 38), ((6, 34, 5, 0, 29), 42), ((3, 1, 9, 0, 1200), 45), ((4, 20, 4, 0, 36), 151), ((5, 3, 9, 0, 1200), 154), ((4, 27, 5, 0, 93), 185), ((9, 3, 9, 0, 1200), 188), ((10, 22, 5, 0, 77), 227), ((7, 3, 9, 0, 1200), 230), ((10, 29, 4, 1, 11), 257), ((2, 3, 9, 0, 1200), 260), ((10, 38, 5, 0, 1), 299), ((1, 3, 9, 0, 1200), 302), ((12, 13, 0, 5, 99), 343), ((10, 56, 2, 3, 139), 347), ((10, 64, 0, 5, 46), 350), ((12, 18, 0, 8, 100), 354), ((10, 71, 0, 0, 51), 359), ((6, 89, 0, 0, 50), 363), ((10, 75, 0, 3, 30), 367), ((10, 81, 0, 3, 31), 371), ((10, 84, 0, 2, 32), 375), ((10, 88, 0, 1, 52), 379), ((6, 96, 0, 1, 61), 383), ((6, 125, 9, 2, 1201), 387), ((12, 23, 0, 2, 101), 390), ((10, 92, 0, 2, 53), 394), ((6, 106, 0, 0, 59), 398), ((6, 115, 0, 0, 60), 402), ((6, 128, 0, 1, 65), 406), ((6, 146, 0, 2, 64), 410), ((6, 137, 0, 1, 63), 414), ((6, 109, 9, 2, 1202), 418), ((12, 28, 0, 1, 102), 421), ((10, 96, 0, 1, 54), 425), ((12, 33, 0, 1, 103), 429), ((10, 100, 0, 1, 55), 433), ((12, 37, 0, 1, 104), 437), ((10, 103, 0, 1, 56), 441), ((6, 119, 0, 0, 57), 446), ((6, 122, 0, 0, 58), 450), ((12, 41, 0, 1, 105), 454), ((10, 125, 0, 1, 66), 458), ((12, 45, 0, 2, 106), 462), ((10, 128, 0, 2, 67), 466), ((12, 49, 0, 2, 107), 470), ((10, 131, 0, 2, 68), 474), ((6, 153, 0, 1, 48), 478), ((12, 53, 0, 0, 108), 482), ((10, 134, 0, 0, 69), 486), ((6, 157, 0, 2, 70), 490), ((12, 58, 0, 5, 109), 494), ((10, 138, 0, 0, 78), 498), ((10, 142, 0, 1, 79), 502), ((12, 63, 0, 1, 110), 506), ((10, 146, 0, 1, 80), 510), ((12, 67, 0, 0, 111), 514), ((10, 150, 0, 1, 13), 518), ((2, 31, 0, 0, 81), 522), ((7, 31, 0, 1, 82), 526), ((7, 39, 2, 1, 87), 530), ((7, 43, 0, 1, 83), 533), ((7, 35, 0, 3, 86), 537), ((7, 46, 2, 1, 88), 541), ((7, 49, 0, 1, 84), 544), ((7, 55, 2, 1, 90), 548), ((7, 90, 2, 1, 91), 560), ((7, 59, 0, 3, 85), 576), ((7, 63, 9, 0, 1205), 580), ((7, 68, 9, 1, 1206), 590), ((7, 52, 2, 1, 89), 628), ((2, 47, 0, 1, 14), 631), ((2, 51, 0, 0, 24), 635), ((2, 64, 2, 2, 15), 639), ((2, 68, 0, 1, 28), 642), ((2, 74, 0, 1, 16), 646), ((2, 93, 0, 2, 18), 650), ((2, 97, 0, 0, 25), 654), ((2, 109, 3, 3, 139), 658), ((2, 60, 0, 1, 27), 659), ((2, 77, 0, 1, 26), 663), ((2, 80, 0, 1, 19), 667), ((2, 113, 0, 1, 20), 671), ((2, 119, 0, 0, 21), 675), ((2, 123, 0, 0, 22), 679), ((2, 116, 0, 1, 23), 683), ((2, 83, 0, 1, 17), 687), ((2, 100, 9, 5, 1204), 691), ((2, 106, 4, 4, 0), 695), ((0, 1, 9, 0, 1200), 698), ((2, 57, 4, 2, 92), 721), ((8, 1, 9, 0, 1200), 724), ((8, 7, 9, 2, 1202), 725), ((8, 13, 9, 2, 1201), 726), ((10, 154, 0, 0, 12), 734), ((12, 71, 0, 0, 112), 738), ((12, 75, 0, 2, 113), 742), ((10, 157, 0, 2, 134), 746), ((10, 258, 0, 1, 48), 750), ((10, 161, 0, 2, 2), 751), ((1, 20, 0, 2, 76), 755), ((10, 165, 0, 1, 7), 759), ((1, 57, 0, 1, 3), 763), ((1, 31, 0, 2, 4), 767), ((1, 35, 0, 1, 5), 771), ((1, 43, 3, 3, 139), 775), ((1, 39, 2, 3, 6), 776), ((12, 79, 0, 2, 114), 779), ((12, 83, 0, 3, 115), 783), ((10, 172, 0, 2, 8), 787), ((12, 88, 0, 2, 116), 791), ((10, 178, 0, 2, 9), 796), ((1, 67, 0, 1, 7), 800), ((1, 71, 2, 1, 10), 801), ((1, 77, 0, 2, 8), 805), ((12, 93, 0, 2, 117), 807), ((12, 97, 0, 4, 118), 812), ((10, 184, 0, 2, 135), 816), ((12, 102, 0, 2, 119), 825), ((12, 106, 0, 2, 120), 829), ((10, 190, 0, 2, 71), 833), ((12, 110, 0, 2, 121), 837), ((10, 193, 0, 2, 72), 841), ((12, 114, 0, 0, 122), 845), ((10, 196, 0, 0, 73), 849), ((6, 161, 0, 1, 75), 853), ((6, 171, 0, 1, 62), 857), ((12, 118, 0, 1, 123), 861), ((10, 199, 0, 1, 74), 865), ((6, 167, 0, 0, 73), 869), ((12, 122, 0, 2, 124), 870), ((10, 202, 0, 1, 49), 874), ((10, 208, 9, 2, 1201), 878), ((12, 127, 0, 0, 125), 879), ((10, 216, 0, 1, 136), 883), ((10, 282, 0, 2, 137), 887), ((10, 285, 0, 1, 3), 891), ((12, 131, 0, 3, 126), 892), ((10, 220, 2, 2, 138), 896), ((10, 227, 0, 2, 38), 899), ((5, 47, 3, 3, 139), 903), ((12, 135, 0, 5, 127), 904), ((10, 233, 0, 4, 39), 909), ((5, 51, 0, 0, 43), 913), ((5, 68, 9, 2, 1201), 917), ((12, 139, 0, 1, 128), 918), ((10, 237, 0, 1, 40), 922), ((5, 54, 0, 1, 41), 926), ((5, 58, 0, 3, 42), 930), ((5, 62, 9, 2, 1202), 934), ((12, 143, 0, 3, 129), 935), ((10, 240, 0, 2, 44), 939), ((12, 147, 0, 3, 130), 943), ((10, 243, 0, 3, 95), 947), ((12, 151, 0, 5, 131), 951), ((10, 247, 0, 5, 96), 955), ((9, 31, 3, 3, 139), 959), ((9, 35, 9, 1, 1203), 960), ((9, 41, 2, 2, 97), 963), ((12, 155, 0, 1, 132), 966), ((10, 251, 0, 1, 35), 970), ((4, 39, 0, 1, 47), 974), ((6, 72, 0, 5, 46), 978), ((6, 79, 9, 5, 1204), 979), ((6, 85, 0, 1, 33), 980), ((3, 37, 0, 3, 30), 984), ((3, 41, 0, 3, 31), 985), ((3, 44, 0, 2, 32), 986), ((4, 43, 0, 1, 37), 987), ((5, 27, 9, 5, 1204), 991), ((4, 46, 0, 1, 94), 992), ((9, 21, 9, 5, 1204), 996), ((4, 49, 9, 5, 1204), 997), ((12, 159, 0, 1, 133), 998), ((12, 12, 4, 0, 140), 1004), ((11, 1, 9, 0, 1200), 1007), ((12, 17, 0, 5, 142), 1220), ((11, 148, 2, 3, 141), 1225), ((12, 22, 0, 8, 153), 1230), ((11, 206, 0, 1, 147), 1238), ((11, 191, 0, 0, 145), 1242), ((11, 195, 0, 4, 146), 1246), ((11, 187, 0, 1, 144), 1250), ((12, 27, 0, 2, 154), 1254), ((11, 223, 0, 0, 151), 1258), ((11, 209, 0, 1, 150), 1262), ((11, 202, 0, 2, 149), 1266), ((11, 199, 0, 1, 148), 1270), ((11, 227, 0, 0, 152), 1274), ((12, 32, 0, 1, 155), 1278), ((12, 36, 0, 1, 156), 1282), ((12, 40, 0, 1, 158), 1286), ((11, 232, 0, 0, 157), 1292), ((12, 44, 0, 1, 159), 1296), ((12, 48, 0, 2, 160), 1300), ((12, 52, 0, 2, 161), 1304), ((11, 241, 0, 1, 143), 1308), ((12, 57, 0, 0, 163), 1312), ((11, 245, 0, 2, 162), 1316), ((12, 62, 0, 5, 164), 1320), ((11, 249, 0, 1, 165), 1324), ((12, 66, 0, 1, 166), 1328), ((12, 70, 0, 0, 191), 1332), ((11, 400, 0, 1, 190), 1336), ((11, 295, 0, 0, 170), 1340), ((11, 279, 0, 0, 169), 1344), ((11, 394, 0, 1, 187), 1348), ((11, 298, 0, 1, 172), 1353), ((11, 286, 9, 0, 1205), 1357), ((11, 291, 9, 1, 1206), 1358), ((11, 310, 0, 2, 168), 1361), ((11, 369, 0, 1, 186), 1365), ((11, 372, 0, 2, 185), 1369), ((11, 317, 0, 1, 176), 1373), ((11, 314, 0, 0, 171), 1377), ((11, 375, 0, 0, 184), 1383), ((11, 353, 0, 0, 183), 1387), ((11, 347, 0, 1, 181), 1392), ((11, 350, 0, 0, 179), 1396), ((11, 333, 0, 0, 178), 1400), ((11, 330, 0, 0, 177), 1404), ((11, 320, 0, 1, 175), 1408), ((11, 323, 0, 2, 174), 1412), ((11, 326, 2, 1, 167), 1416), ((11, 356, 0, 1, 182), 1432), ((11, 342, 0, 0, 180), 1436), ((11, 382, 0, 0, 188), 1444), ((11, 387, 0, 1, 173), 1449), ((11, 397, 0, 1, 189), 1453), ((12, 74, 0, 0, 192), 1459), ((12, 78, 0, 2, 200), 1463), ((11, 421, 0, 2, 198), 1467), ((11, 424, 0, 2, 199), 1471), ((11, 415, 0, 1, 196), 1475), ((11, 418, 0, 1, 197), 1479), ((11, 411, 0, 3, 195), 1483), ((11, 407, 2, 3, 194), 1487), ((11, 403, 2, 1, 193), 1490), ((12, 82, 0, 2, 201), 1493), ((12, 87, 0, 3, 203), 1499), ((11, 431, 0, 3, 202), 1503), ((12, 92, 0, 2, 205), 1507), ((11, 439, 0, 2, 204), 1511), ((12, 96, 0, 2, 206), 1517), ((12, 101, 0, 4, 207), 1521), ((12, 105, 0, 2, 208), 1530), ((12, 109, 0, 2, 209), 1534), ((12, 113, 0, 2, 211), 1538), ((11, 453, 0, 1, 210), 1542), ((12, 117, 0, 0, 213), 1546), ((11, 456, 0, 1, 212), 1550), ((12, 121, 0, 1, 214), 1554), ((11, 459, 0, 0, 213), 1558), ((12, 126, 0, 2, 215), 1559), ((12, 130, 0, 0, 217), 1563), ((11, 462, 0, 1, 216), 1567), ((12, 134, 0, 3, 219), 1571), ((11, 467, 2, 2, 218), 1575), ((12, 138, 0, 5, 221), 1579), ((11, 484, 0, 0, 220), 1584), ((12, 142, 0, 1, 224), 1588), ((11, 493, 0, 0, 223), 1593), ((11, 487, 0, 3, 222), 1597), ((12, 146, 0, 3, 225), 1601), ((12, 150, 0, 3, 226), 1606), ((12, 154, 0, 5, 227), 1612), ((12, 158, 0, 1, 230), 1617), ((11, 514, 0, 1, 229), 1621), ((11, 510, 0, 1, 228), 1625), ((12, 162, 0, 1, 231), 1629)]
def spn (q : Nat) : MethodName := match q with
  | 1200 => Lib.objectInit | 1201 => Lib.Math.max.name | 1202 => Lib.Math.min.name | 1203 => Lib.Math.abs.name | 1204 => arraycopyName | 1205 => yJ0_length_8abf5 | _ => yJ0_charAt_5068e
def mck (q : (Nat × Nat × Nat × Nat × Nat) × Nat) : Bool :=
  if q.1.2.2.1 = 9 then decide (tables_1[q.2]? = some (.methodLink (ROf q.1.1) q.1.2.1 (spn q.1.2.2.2.2)))
  else decide (q.1.2.2.2.2 < 232) && decide (jkd q.1.2.2.2.2 = (if q.1.2.2.1 < 2 then 0 else if q.1.2.2.1 < 4 then 1 else 2)) && decide ((parseMethodDescriptor (mt q.1.2.2.2.2).2.1.desc).map (fun d => d.parameters.length) = some q.1.2.2.2.1) &&
    (if q.1.2.2.1 % 2 = 0 then decide (tables_1[q.2]? = some (.methodLink (ROf q.1.1) q.1.2.1 (mt q.1.2.2.2.2).2.1)) else decide (tables_1[q.2]? = some (.methodLinkNest (ROf q.1.1) q.1.2.1 (mt q.1.2.2.2.2).2.1 "TreacleTank")))
set_option maxRecDepth 100000 in
theorem mpt_ok : mpt.map (fun q => q.1) = mtab := by decide +kernel
set_option maxRecDepth 100000 in
theorem mpt_all : mpt.all mck = true := by decide +kernel
theorem mth_ok {a b k na q : Nat} (h : pk mtab a b = some (k, na, q)) : ∃ p, mck ((a, b, k, na, q), p) = true := by
  have hm := pk_mem h
  rw [← mpt_ok, List.mem_map] at hm
  obtain ⟨⟨e, p⟩, hq, rfl⟩ := hm
  exact ⟨p, List.all_eq_true.mp mpt_all _ hq⟩
def cpt : List ((Nat × Nat × Nat) × Nat) := [((12, 7, 10), 19), ((10, 9, 4), 27), ((4, 9, 6), 33), ((6, 9, 3), 39), ((4, 18, 5), 149), ((4, 25, 9), 183), ((10, 20, 7), 225), ((10, 27, 2), 255), ((2, 11, 0), 261), ((10, 36, 1), 297), ((10, 43, 8), 310), ((2, 55, 8), 719), ((8, 16, 0), 727), ((12, 10, 11), 1002)]
def npt : List (Nat × Nat) := [(694, 17), (298, 9), (256, 8), (41, 4), (28, 2), (150, 5), (34, 3), (226, 7), (720, 18), (184, 6), (20, 1), (1003, 10)]
set_option maxRecDepth 100000 in
theorem cpt_ok : cpt.map (fun q => q.1) = ctab := by decide +kernel
set_option maxRecDepth 100000 in
theorem cpt_all : cpt.all (fun q => decide (tables_1[q.2]? = some (.classLink (ROf q.1.1) q.1.2.1 (RF q.1.2.2))) && decide (q.1.2.2 < 12)) = true := by decide +kernel
theorem cls_ok {a b ci : Nat} (h : pk ctab a b = some ci) : Cond.classLink (ROf a) b (RF ci) ∈ gtb ∧ ci < 12 := by
  have hm := pk_mem h
  rw [← cpt_ok, List.mem_map] at hm
  obtain ⟨q, hq, e⟩ := hm
  have := List.all_eq_true.mp cpt_all q hq
  simp only [Bool.and_eq_true, decide_eq_true_eq] at this
  rw [e] at this
  exact ⟨gtb_at this.1 rfl, this.2⟩
set_option maxRecDepth 100000 in
theorem npt_all : (List.range 12).all (fun i => decide (tables_1[(npt.getD i (0, 0)).1]? = some (.instantiable (RF i) (nF i))) && decide (tables_1[(npt.getD i (0, 0)).2]? = some (.initialized (RF i)))) = true := by decide +kernel
theorem inst_ok {ci : Nat} (h : ci < 12) : Cond.instantiable (RF ci) (nF ci) ∈ gtb ∧ Cond.initialized (RF ci) ∈ gtb := by
  have := List.all_eq_true.mp npt_all ci (List.mem_range.mpr h)
  simp only [Bool.and_eq_true, decide_eq_true_eq] at this
  exact ⟨gtb_at this.1 rfl, gtb_at this.2 rfl⟩
def ipt : List ((Nat × Nat × Int32) × Nat) := [((10, 70, 9999999), 358), ((6, 118, 99999), 445), ((10, 232, 99999), 908), ((11, 231, 99999), 1291)]
def lpt : List ((Nat × Nat × Int64) × Nat) := [((10, 176, -1), 795), ((1, 75, 1000000), 804), ((1, 81, 1000), 806), ((10, 182, 1000000), 811), ((10, 261, 1103515245), 820), ((10, 263, 12345), 821), ((10, 265, 2147483648), 822), ((10, 267, 65536), 823), ((10, 269, 1000), 824), ((11, 146, 99), 1224), ((11, 152, 999), 1228), ((11, 154, 199), 1229), ((11, 215, 20), 1234), ((11, 217, -50), 1235), ((11, 219, 9), 1236), ((11, 221, 9999999), 1237), ((11, 229, 500), 1290), ((11, 282, 48), 1381), ((11, 284, 57), 1382), ((11, 378, 65), 1442), ((11, 380, 80), 1443), ((11, 427, 15), 1497), ((11, 429, -1), 1498), ((11, 435, 1000000), 1515), ((11, 437, 1000), 1516), ((11, 443, 200), 1525), ((11, 445, 1103515245), 1526), ((11, 447, 12345), 1527), ((11, 449, 2147483648), 1528), ((11, 451, 65536), 1529), ((11, 465, 11), 1578), ((11, 473, 99999), 1583), ((11, 491, 60), 1592), ((11, 496, 3), 1605), ((11, 498, 4), 1610), ((11, 500, 255), 1611), ((11, 502, 7), 1616)]
set_option maxRecDepth 100000 in
theorem ipt_ok : ipt.map (fun q => q.1) = itab := by decide +kernel
set_option maxRecDepth 100000 in
theorem ipt_all : ipt.all (fun q => decide (tables_1[q.2]? = some (.constant (ROf q.1.1) q.1.2.1 q.1.2.2))) = true := by decide +kernel
theorem ipt_in {a b v} (h : pk itab a b = some v) : Cond.constant (ROf a) b v ∈ gtb := by
  have hm := pk_mem h
  rw [← ipt_ok, List.mem_map] at hm
  obtain ⟨q, hq, e⟩ := hm
  have := List.all_eq_true.mp ipt_all q hq
  simp only [decide_eq_true_eq] at this
  rw [e] at this
  exact gtb_at this rfl
set_option maxRecDepth 100000 in
theorem lpt_ok : lpt.map (fun q => q.1) = jtab := by decide +kernel
set_option maxRecDepth 100000 in
theorem lpt_all : lpt.all (fun q => decide (tables_1[q.2]? = some (.constantLong (ROf q.1.1) q.1.2.1 q.1.2.2))) = true := by decide +kernel
theorem lpt_in {a b v} (h : pk jtab a b = some v) : Cond.constantLong (ROf a) b v ∈ gtb := by
  have hm := pk_mem h
  rw [← lpt_ok, List.mem_map] at hm
  obtain ⟨q, hq, e⟩ := hm
  have := List.all_eq_true.mp lpt_all q hq
  simp only [decide_eq_true_eq] at this
  rw [e] at this
  exact gtb_at this rfl
set_option maxRecDepth 100000 in
theorem str_all : stab.all (fun e => strs.any (fun q => decide (q.1 = ROf e.1) && decide (q.2.1 = e.2.1) && decide (q.2.2.2 = e.2.2))) = true := by decide +kernel
theorem str_ok {a b j : Nat} (h : pk stab a b = some j) : ∃ tx, (ROf a, b, tx, j) ∈ strs := by
  have := List.all_eq_true.mp str_all _ (pk_mem h)
  rw [List.any_eq_true] at this
  obtain ⟨⟨q1, q2, q3, q4⟩, hq, h2⟩ := this
  simp only [Bool.and_eq_true, decide_eq_true_eq] at h2
  obtain ⟨⟨rfl, rfl⟩, rfl⟩ := h2
  exact ⟨q3, hq⟩
set_option maxRecDepth 100000 in
theorem str_lt : strs.all (fun q => decide (q.2.2.2 < 22)) = true := by decide +kernel
theorem w_aI : Cond.arrayClass (.int) ∈ gtb := gtb_at (p := 87) (by decide +kernel) rfl
theorem w_aB : Cond.arrayClass (.byte) ∈ gtb := gtb_at (p := 718) (by decide +kernel) rfl
theorem w_aZ : Cond.arrayClass (.boolean) ∈ gtb := gtb_at (p := 1219) (by decide +kernel) rfl
theorem w_aJ_ : Cond.arrayClass (.long) ∈ gtb := gtb_at (p := 1218) (by decide +kernel) rfl
theorem w_oi : Cond.instanceMethod Lib.objectInit ∈ gtb := gtb_at (p := 25) (by decide +kernel) rfl
theorem w_oc : Cond.code Lib.objectInit ⟨#[0xb1]⟩ 1 none ∈ gtb := gtb_at (p := 26) (by decide +kernel) rfl
theorem w_maxs : Cond.static Lib.Math.max.name ∈ gtb := gtb_at (p := 388) (by decide +kernel) rfl
theorem w_maxc : Cond.code Lib.Math.max.name Lib.Math.max.code 2 (some .int) ∈ gtb := gtb_at (p := 389) (by decide +kernel) rfl
theorem w_mins : Cond.static Lib.Math.min.name ∈ gtb := gtb_at (p := 419) (by decide +kernel) rfl
theorem w_minc : Cond.code Lib.Math.min.name Lib.Math.min.code 2 (some .int) ∈ gtb := gtb_at (p := 420) (by decide +kernel) rfl
theorem w_abss : Cond.static Lib.Math.abs.name ∈ gtb := gtb_at (p := 961) (by decide +kernel) rfl
theorem w_absc : Cond.code Lib.Math.abs.name Lib.Math.abs.code 1 (some .int) ∈ gtb := gtb_at (p := 962) (by decide +kernel) rfl
theorem w_mi : Cond.initialized "java/lang/Math" ∈ gtb := gtb_at (p := 11) (by decide +kernel) rfl
theorem w_an : Cond.native arraycopyName ∈ gtb := gtb_at (p := 693) (by decide +kernel) rfl
theorem w_as : Cond.static arraycopyName ∈ gtb := gtb_at (p := 692) (by decide +kernel) rfl
theorem w_ai : Cond.initialized "java/lang/System" ∈ gtb := gtb_at (p := 16) (by decide +kernel) rfl
