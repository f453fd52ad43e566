theorem GT_listP (ws : List Cond) (is : List Nat) (h : ws = is.filterMap (fun i => (k2_sels lw_privs)[i]?)) (hg : ws.all goodWord = true) : ∀ w ∈ ws, w ∈ GT := by
  intro w hw
  have h1 := List.all_eq_true.mp hg w hw
  rw [h] at hw
  obtain ⟨i, -, hi⟩ := List.mem_filterMap.mp hw
  unfold GT
  refine List.mem_filter.mpr ⟨?_, h1⟩
  unfold lw_tbl
  exact List.mem_append_left _ (List.mem_of_getElem? hi)
theorem mem_app_all {α : Type} {P : α → Prop} {a b : List α} (ha : ∀ w ∈ a, P w) (hb : ∀ w ∈ b, P w) : ∀ w ∈ a ++ b, P w := fun w hw => (List.mem_append.mp hw).elim (ha w) (hb w)
theorem flk_0_0 : ∀ w ∈ ([(9, 0, 0), (15, 0, 1), (18, 0, 2), (21, 0, 3), (24, 0, 4), (27, 0, 5), (30, 0, 6), (33, 0, 7), (43, 0, 8), (49, 0, 9), (55, 0, 10), (61, 0, 11), (70, 1, 0)] : List (Nat × Nat × Nat)).map (flW 0), w ∈ GT := GT_list _ [178, 180, 181, 182, 183, 184, 185, 186, 187, 188, 189, 191, 135] (by decide +kernel) (by decide +kernel)
theorem flk_0 : ∀ w ∈ (flL 0).map (flW 0), w ∈ GT := flk_0_0
theorem flk_1_0 : ∀ w ∈ ([(9, 1, 0)] : List (Nat × Nat × Nat)).map (flW 1), w ∈ GT := GT_list _ [134] (by decide +kernel) (by decide +kernel)
theorem flk_1 : ∀ w ∈ (flL 1).map (flW 1), w ∈ GT := flk_1_0
theorem flk_2_0 : ∀ w ∈ ([(7, 2, 0)] : List (Nat × Nat × Nat)).map (flW 2), w ∈ GT := GT_list _ [261] (by decide +kernel) (by decide +kernel)
theorem flk_2 : ∀ w ∈ (flL 2).map (flW 2), w ∈ GT := flk_2_0
theorem flk_3_0 : ∀ w ∈ ([(11, 3, 0), (17, 3, 3), (21, 3, 4), (28, 3, 1), (32, 3, 2), (35, 3, 7), (45, 3, 5), (64, 3, 6)] : List (Nat × Nat × Nat)).map (flW 3), w ∈ GT := GT_list _ [227, 230, 232, 228, 229, 236, 233, 234] (by decide +kernel) (by decide +kernel)
theorem flk_3 : ∀ w ∈ (flL 3).map (flW 3), w ∈ GT := flk_3_0
theorem flk_4_0 : ∀ w ∈ ([(9, 4, 2), (20, 4, 0), (24, 4, 1), (37, 8, 1), (47, 9, 0), (174, 9, 4), (192, 8, 4), (195, 8, 2)] : List (Nat × Nat × Nat)).map (flW 4), w ∈ GT := GT_list _ [80, 77, 78, 59, 96, 103, 65, 62] (by decide +kernel) (by decide +kernel)
theorem flk_4 : ∀ w ∈ (flL 4).map (flW 4), w ∈ GT := flk_4_0
theorem flk_5_0 : ∀ w ∈ ([(9, 5, 0), (15, 5, 1), (19, 5, 2), (23, 5, 3), (33, 5, 4), (36, 5, 5), (39, 5, 6), (56, 1, 0)] : List (Nat × Nat × Nat)).map (flW 5), w ∈ GT := GT_list _ [148, 149, 150, 151, 152, 153, 155, 136] (by decide +kernel) (by decide +kernel)
theorem flk_5 : ∀ w ∈ (flL 5).map (flW 5), w ∈ GT := flk_5_0
theorem flk_6_0 : ∀ w ∈ ([(9, 6, 0), (13, 6, 1), (17, 6, 2), (21, 6, 3)] : List (Nat × Nat × Nat)).map (flW 6), w ∈ GT := GT_list _ [272, 274, 276, 278] (by decide +kernel) (by decide +kernel)
theorem flk_6 : ∀ w ∈ (flL 6).map (flW 6), w ∈ GT := flk_6_0
theorem flk_7_0 : ∀ w ∈ ([(9, 7, 0), (13, 7, 1)] : List (Nat × Nat × Nat)).map (flW 7), w ∈ GT := GT_list _ [35, 37] (by decide +kernel) (by decide +kernel)
theorem flk_7 : ∀ w ∈ (flL 7).map (flW 7), w ∈ GT := flk_7_0
theorem flk_8_0 : ∀ w ∈ ([(7, 8, 0), (13, 8, 3), (20, 8, 2), (23, 7, 1), (28, 7, 0), (32, 8, 4), (35, 8, 1)] : List (Nat × Nat × Nat)).map (flW 8), w ∈ GT := GT_list _ [58, 63, 61, 39, 36, 64, 60] (by decide +kernel) (by decide +kernel)
theorem flk_8 : ∀ w ∈ (flL 8).map (flW 8), w ∈ GT := flk_8_0
theorem flk_9_0 : ∀ w ∈ ([(11, 9, 0), (15, 9, 1), (18, 9, 2), (21, 9, 3), (24, 9, 4), (27, 9, 5), (36, 9, 6)] : List (Nat × Nat × Nat)).map (flW 9), w ∈ GT := GT_list _ [95, 98, 99, 100, 101, 104, 105] (by decide +kernel) (by decide +kernel)
theorem flk_9 : ∀ w ∈ (flL 9).map (flW 9), w ∈ GT := flk_9_0
theorem flk_10_0 : ∀ w ∈ ([(12, 10, 0), (21, 10, 1), (28, 10, 2), (32, 10, 3), (35, 10, 4), (41, 10, 5), (46, 10, 6), (51, 10, 7), (63, 10, 8), (70, 10, 9), (77, 10, 10), (83, 10, 11), (88, 10, 12), (92, 10, 13), (104, 7, 1), (122, 4, 1), (125, 4, 2), (151, 9, 4), (163, 1, 0), (175, 0, 0), (195, 5, 5), (198, 5, 6), (247, 3, 6), (248, 3, 3), (332, 0, 11), (338, 0, 10), (341, 9, 6), (367, 9, 0), (373, 9, 7), (383, 6, 1), (392, 6, 2), (398, 6, 0), (424, 3, 7), (437, 6, 3)] : List (Nat × Nat × Nat)).map (flW 10), w ∈ GT := GT_list _ [290, 291, 292, 293, 294, 295, 296, 297, 298, 299, 300, 301, 302, 303, 38, 79, 81, 102, 137, 179, 154, 156, 235, 231, 192, 190, 106, 97, 107, 275, 277, 273, 237, 279] (by decide +kernel) (by decide +kernel)
theorem flk_10 : ∀ w ∈ (flL 10).map (flW 10), w ∈ GT := flk_10_0
theorem flk_11_0 : ∀ w ∈ ([(9, 11, 1), (13, 11, 2), (16, 11, 3), (20, 11, 4), (24, 11, 6), (27, 11, 13), (31, 11, 14), (34, 11, 15), (37, 11, 16), (40, 11, 20), (43, 11, 21), (46, 11, 22), (49, 11, 23), (52, 11, 24), (55, 11, 25), (58, 11, 27), (61, 11, 28), (64, 11, 29), (67, 11, 30), (70, 11, 31), (73, 11, 32), (76, 11, 33), (80, 11, 34), (100, 11, 5), (103, 11, 7), (106, 11, 8), (113, 11, 9), (116, 11, 10), (127, 11, 11), (137, 11, 12), (268, 11, 17), (308, 11, 18), (311, 11, 19), (349, 11, 26)] : List (Nat × Nat × Nat)).map (flW 11), w ∈ GT := GT_list _ [1244, 1245, 1246, 1247, 1249, 1256, 1257, 1258, 1259, 1263, 1264, 1265, 1266, 1267, 1268, 1270, 1271, 1272, 1273, 1274, 1275, 1276, 1277, 1248, 1250, 1251, 1252, 1253, 1254, 1255, 1260, 1261, 1262, 1269] (by decide +kernel) (by decide +kernel)
theorem flk_11 : ∀ w ∈ (flL 11).map (flW 11), w ∈ GT := flk_11_0
theorem flk_ok : ∀ (o : Nat), ∀ w ∈ (flL o).map (flW o), w ∈ GT
  | 0 => flk_0
  | 1 => flk_1
  | 2 => flk_2
  | 3 => flk_3
  | 4 => flk_4
  | 5 => flk_5
  | 6 => flk_6
  | 7 => flk_7
  | 8 => flk_8
  | 9 => flk_9
  | 10 => flk_10
  | 11 => flk_11
  | 12 => (fun w hw => by cases hw)
  | 13 => (fun w hw => by cases hw)
  | 14 => (fun w hw => by cases hw)
  | 15 => (fun w hw => by cases hw)
  | 16 => (fun w hw => by cases hw)
  | 17 => (fun w hw => by cases hw)
  | 18 => (fun w hw => by cases hw)
  | n + 19 => (fun w hw => by cases hw)
theorem mlk_0_0 : ∀ w ∈ ([(37, 76), (46, 89), (52, 90), (58, 91), (64, 356), (75, 93), (79, 9), (83, 5), (87, 82), (90, 10), (93, 8), (102, 13), (106, 348)] : List (Nat × Nat)).map (mlW 0), w ∈ GT := GT_list _ [678, 679, 683, 691, 695, 824, 845, 854, 849, 850, 841, 865, 869] (by decide +kernel) (by decide +kernel)
theorem mlk_0 : ∀ w ∈ (mlL 0).map (mlW 0), w ∈ GT := mlk_0_0
theorem mlk_1_0 : ∀ w ∈ ([(17, 96), (21, 94), (24, 76), (28, 82)] : List (Nat × Nat)).map (mlW 1), w ∈ GT := GT_list _ [645, 646, 651, 655] (by decide +kernel) (by decide +kernel)
theorem mlk_1 : ∀ w ∈ (mlL 1).map (mlW 1), w ∈ GT := mlk_1_0
theorem mlk_3_0 : ∀ w ∈ ([(25, 0), (39, 79), (49, 96), (53, 1), (56, 2), (60, 25), (67, 26), (70, 27), (73, 4), (76, 28), (80, 3)] : List (Nat × Nat)).map (mlW 3), w ∈ GT := GT_list _ [226, 914, 915, 916, 917, 918, 923, 935, 922, 927, 931] (by decide +kernel) (by decide +kernel)
theorem mlk_3 : ∀ w ∈ (mlL 3).map (mlW 3), w ∈ GT := mlk_3_0
theorem mlk_4_0 : ∀ w ∈ ([(17, 65), (27, 71), (32, 66), (40, 32), (44, 31), (53, 68), (57, 34), (62, 35), (67, 36), (72, 37), (75, 44), (81, 42), (90, 33), (94, 41), (98, 43), (112, 75), (119, 67), (124, 99), (128, 77), (133, 38), (142, 102), (146, 100), (149, 347), (155, 78), (160, 39), (169, 101), (180, 40)] : List (Nat × Nat)).map (mlW 4), w ∈ GT := GT_list _ [54, 358, 365, 377, 463, 386, 468, 484, 519, 543, 438, 382, 447, 455, 459, 472, 442, 479, 488, 493, 506, 514, 515, 523, 528, 538, 499] (by decide +kernel) (by decide +kernel)
theorem mlk_4 : ∀ w ∈ (mlL 4).map (mlW 4), w ∈ GT := mlk_4_0
theorem mlk_5_0 : ∀ w ∈ ([(29, 97), (42, 76), (46, 50), (50, 51), (61, 47), (65, 346), (70, 18), (74, 48), (78, 96), (81, 49), (85, 52), (88, 53), (91, 54), (94, 55), (97, 82), (100, 95), (103, 93), (106, 56), (109, 75)] : List (Nat × Nat)).map (mlW 5), w ∈ GT := GT_list _ [722, 723, 724, 748, 733, 741, 744, 728, 732, 737, 752, 761, 766, 756, 760, 765, 770, 771, 775] (by decide +kernel) (by decide +kernel)
theorem mlk_5 : ∀ w ∈ (mlL 5).map (mlW 5), w ∈ GT := mlk_5_0
theorem mlk_6_0 : ∀ w ∈ ([(24, 355)] : List (Nat × Nat)).map (mlW 6), w ∈ GT := GT_list _ [1214] (by decide +kernel) (by decide +kernel)
theorem mlk_6 : ∀ w ∈ (mlL 6).map (mlW 6), w ∈ GT := mlk_6_0
theorem mlk_8_0 : ∀ w ∈ ([(17, 67), (38, 69), (43, 349), (49, 350)] : List (Nat × Nat)).map (mlW 8), w ∈ GT := GT_list _ [369, 373, 390, 400] (by decide +kernel) (by decide +kernel)
theorem mlk_8 : ∀ w ∈ (mlL 8).map (mlW 8), w ∈ GT := mlk_8_0
theorem mlk_9_0 : ∀ w ∈ ([(30, 356), (46, 79), (50, 74), (54, 97), (58, 92), (62, 95), (65, 96), (68, 100), (72, 102), (76, 99)] : List (Nat × Nat)).map (mlW 9), w ∈ GT := GT_list _ [362, 951, 611, 799, 687, 650, 640, 510, 1150, 1151] (by decide +kernel) (by decide +kernel)
theorem mlk_9 : ∀ w ∈ (mlL 9).map (mlW 9), w ∈ GT := mlk_9_0
theorem mlk_10_0 : ∀ w ∈ ([(18, 29), (55, 45), (60, 0), (69, 22), (96, 63), (100, 64), (108, 30), (112, 72), (115, 23), (118, 73), (128, 82), (132, 95), (136, 84), (139, 96), (142, 85), (145, 97), (148, 87), (154, 83), (157, 93), (160, 169), (166, 94), (169, 76), (172, 170), (178, 74), (181, 89), (184, 171), (188, 48), (191, 47), (201, 172), (204, 78), (207, 88), (210, 80), (213, 81), (216, 4), (219, 5), (223, 11), (226, 8), (230, 12), (233, 6), (236, 7), (239, 345), (244, 175), (251, 86), (254, 177), (257, 79), (260, 178), (263, 179), (266, 15), (270, 180), (273, 181), (276, 182), (279, 184), (282, 183), (285, 347), (290, 185), (293, 186), (296, 187), (299, 174), (302, 188), (306, 348)] : List (Nat × Nat)).map (mlW 10), w ∈ GT := GT_list _ [48, 144, 174, 220, 338, 342, 354, 548, 555, 559, 571, 575, 583, 587, 595, 599, 607, 619, 623, 631, 660, 665, 670, 704, 705, 710, 776, 777, 790, 794, 795, 804, 808, 820, 825, 837, 855, 860, 876, 880, 888, 898, 947, 952, 906, 964, 968, 641, 971, 984, 988, 1000, 1004, 1017, 1022, 1026, 1034, 1046, 1050, 1008] (by decide +kernel) (by decide +kernel)
theorem mlk_10_1 : ∀ w ∈ ([(310, 189), (313, 190), (316, 191), (319, 192), (323, 193), (326, 75), (329, 91), (335, 90), (344, 103), (348, 99), (351, 98), (354, 102), (358, 104), (361, 194), (364, 195), (370, 198), (377, 197), (380, 58), (386, 59), (389, 61), (395, 60), (408, 77), (411, 1), (414, 2), (418, 173), (421, 46), (427, 176), (430, 24), (434, 16), (439, 20), (442, 196), (445, 49), (448, 17), (451, 21)] : List (Nat × Nat)).map (mlW 10), w ∈ GT := GT_list _ [1063, 1075, 1086, 1094, 1110, 1093, 1118, 1119, 1132, 1136, 636, 1141, 1146, 1156, 1160, 1194, 1090, 1210, 1221, 1225, 1233, 635, 674, 696, 714, 718, 902, 910, 975, 1164, 1168, 1172, 1173, 1177] (by decide +kernel) (by decide +kernel)
theorem mlk_10 : ∀ w ∈ (mlL 10).map (mlW 10), w ∈ GT := mem_app_all mlk_10_0 mlk_10_1
theorem mlk_11_0 : ∀ w ∈ ([(88, 200), (92, 205), (109, 219), (131, 348), (140, 221), (143, 349), (149, 350), (153, 223), (157, 220), (160, 224), (163, 222), (167, 225), (171, 226), (174, 229), (179, 227), (183, 230), (207, 233), (224, 231), (227, 232), (230, 234), (247, 235), (250, 236), (253, 213), (256, 214), (259, 238), (262, 216), (264, 206), (271, 240), (274, 239), (278, 208), (284, 209), (287, 215), (290, 210), (293, 207), (296, 243), (299, 241), (302, 242), (305, 252), (313, 202), (316, 258), (320, 255), (323, 256), (326, 260), (330, 259), (334, 347), (337, 257), (340, 261), (343, 262), (346, 263), (352, 270), (355, 271), (358, 272), (361, 201), (364, 211), (367, 275), (370, 346), (373, 278), (376, 279), (379, 280), (382, 281)] : List (Nat × Nat)).map (mlW 11), w ∈ GT := GT_list _ [1354, 1525, 1381, 1390, 1391, 1412, 1413, 1408, 1377, 1404, 1414, 1400, 1423, 1443, 1419, 1448, 1469, 1439, 1454, 1464, 1431, 1395, 1488, 1501, 1558, 1562, 1484, 1550, 1554, 1496, 1509, 1513, 1521, 1534, 1538, 1546, 1566, 1582, 1610, 1622, 1613, 1626, 1606, 1618, 1630, 1598, 1602, 1594, 1635, 1663, 1667, 1659, 1687, 1679, 1683, 1714, 1710, 1719, 1715, 1706] (by decide +kernel) (by decide +kernel)
theorem mlk_11_1 : ∀ w ∈ ([(386, 283), (389, 282), (393, 284), (396, 285), (399, 289), (402, 294), (405, 212), (408, 293), (411, 296), (414, 297), (417, 300), (420, 304), (423, 305), (426, 309), (429, 314), (434, 340), (437, 317), (441, 319), (445, 318), (449, 320), (452, 324), (455, 326), (460, 330), (473, 334), (479, 336), (482, 335), (488, 341)] : List (Nat × Nat)).map (mlW 11), w ∈ GT := GT_list _ [1727, 1702, 1723, 1698, 1743, 1759, 1763, 1767, 1775, 1783, 1791, 1807, 1815, 1827, 1847, 1863, 1866, 1874, 1859, 1870, 1890, 1898, 1915, 1944, 1931, 1935, 1965] (by decide +kernel) (by decide +kernel)
theorem mlk_11 : ∀ w ∈ (mlL 11).map (mlW 11), w ∈ GT := mem_app_all mlk_11_0 mlk_11_1
theorem mlk_12_0 : ∀ w ∈ ([(9, 105), (12, 199), (13, 106), (17, 217), (18, 107), (22, 218), (23, 108), (27, 237), (28, 109), (31, 228), (32, 110), (36, 244), (37, 111), (40, 245), (41, 112), (44, 246), (45, 113), (48, 247), (49, 114), (52, 248), (53, 115), (56, 249), (57, 116), (60, 250), (61, 117), (64, 251), (65, 118), (68, 253), (69, 119), (72, 254), (73, 120), (76, 286), (77, 121), (80, 287), (81, 122), (84, 288), (85, 123), (88, 290), (89, 124), (92, 291), (93, 125), (96, 292), (97, 126), (101, 264), (102, 127), (105, 265), (106, 128), (109, 266), (110, 129), (113, 267), (114, 130), (117, 268), (118, 131), (121, 269), (122, 132), (125, 273), (126, 133), (129, 274), (130, 134), (133, 276)] : List (Nat × Nat)).map (mlW 12), w ∈ GT := GT_list _ [23, 1240, 334, 1361, 346, 1365, 350, 1373, 563, 1369, 567, 1480, 579, 1492, 591, 1505, 603, 1517, 615, 1530, 627, 1542, 656, 1570, 661, 1574, 666, 1578, 700, 1586, 706, 1694, 778, 1731, 782, 1735, 786, 1739, 800, 1747, 812, 1751, 816, 1590, 829, 1631, 833, 1639, 856, 1643, 872, 1647, 884, 1651, 894, 1655, 939, 1671, 943, 1675] (by decide +kernel) (by decide +kernel)
theorem mlk_12_1 : ∀ w ∈ ([(134, 135), (137, 277), (138, 136), (141, 295), (142, 137), (145, 298), (146, 138), (149, 299), (150, 139), (153, 301), (154, 140), (157, 302), (158, 141), (161, 303), (162, 142), (165, 306), (166, 143), (169, 307), (170, 144), (173, 308), (174, 145), (177, 310), (178, 146), (181, 311), (182, 147), (185, 312), (186, 148), (189, 313), (190, 149), (193, 315), (194, 150), (197, 316), (198, 151), (201, 321), (202, 152), (205, 322), (206, 153), (209, 323), (210, 154), (213, 325), (214, 155), (217, 327), (218, 156), (221, 328), (222, 157), (225, 329), (226, 158), (229, 331), (230, 159), (233, 332), (234, 160), (237, 333), (238, 161), (241, 337), (242, 162), (245, 338), (246, 163), (249, 339), (250, 164), (253, 203)] : List (Nat × Nat)).map (mlW 12), w ∈ GT := GT_list _ [956, 1690, 960, 1755, 980, 1771, 992, 1779, 996, 1787, 1009, 1795, 1013, 1799, 1018, 1803, 1030, 1811, 1038, 1819, 1042, 1823, 1054, 1831, 1058, 1835, 1067, 1839, 1071, 1843, 1078, 1850, 1082, 1855, 1098, 1878, 1102, 1882, 1106, 1886, 1114, 1894, 1120, 1902, 1124, 1906, 1128, 1910, 1137, 1919, 1142, 1923, 1152, 1927, 1186, 1948, 1190, 1953, 1198, 1349] (by decide +kernel) (by decide +kernel)
theorem mlk_12_2 : ∀ w ∈ ([(254, 165), (257, 204), (258, 166), (261, 342), (264, 167), (268, 343), (269, 168), (272, 344)] : List (Nat × Nat)).map (mlW 12), w ∈ GT := GT_list _ [1202, 1357, 1206, 1957, 1217, 1961, 1229, 1968] (by decide +kernel) (by decide +kernel)
theorem mlk_12 : ∀ w ∈ (mlL 12).map (mlW 12), w ∈ GT := mem_app_all mlk_12_0 (mem_app_all mlk_12_1 mlk_12_2)
theorem mlk_13_0 : ∀ w ∈ ([(335, 351), (492, 352), (495, 354), (1059, 357)] : List (Nat × Nat)).map (mlW 13), w ∈ GT := GT_list _ [394, 404, 408, 416] (by decide +kernel) (by decide +kernel)
theorem mlk_13 : ∀ w ∈ (mlL 13).map (mlW 13), w ∈ GT := mlk_13_0
theorem mlk_14_0 : ∀ w ∈ ([(9, 353)] : List (Nat × Nat)).map (mlW 14), w ∈ GT := GT_list _ [411] (by decide +kernel) (by decide +kernel)
theorem mlk_14 : ∀ w ∈ (mlL 14).map (mlW 14), w ∈ GT := mlk_14_0
theorem mlk_ok : ∀ (o : Nat), ∀ w ∈ (mlL o).map (mlW o), w ∈ GT
  | 0 => mlk_0
  | 1 => mlk_1
  | 2 => (fun w hw => by cases hw)
  | 3 => mlk_3
  | 4 => mlk_4
  | 5 => mlk_5
  | 6 => mlk_6
  | 7 => (fun w hw => by cases hw)
  | 8 => mlk_8
  | 9 => mlk_9
  | 10 => mlk_10
  | 11 => mlk_11
  | 12 => mlk_12
  | 13 => mlk_13
  | 14 => mlk_14
  | 15 => (fun w hw => by cases hw)
  | 16 => (fun w hw => by cases hw)
  | 17 => (fun w hw => by cases hw)
  | 18 => (fun w hw => by cases hw)
  | n + 19 => (fun w hw => by cases hw)
theorem kik_8_0 : ∀ w ∈ ([(42, 1000000)] : List (Nat × Nat)).map (kiW 8), w ∈ GT := GT_list _ [376] (by decide +kernel) (by decide +kernel)
theorem kik_8 : ∀ w ∈ (kiL 8).map (kiW 8), w ∈ GT := kik_8_0
theorem kik_10_0 : ∀ w ∈ ([(309, 100000), (438, 2000000000)] : List (Nat × Nat)).map (kiW 10), w ∈ GT := GT_list _ [1062, 1159] (by decide +kernel) (by decide +kernel)
theorem kik_10 : ∀ w ∈ (kiL 10).map (kiW 10), w ∈ GT := kik_10_0
theorem kik_11_0 : ∀ w ∈ ([(130, 99999), (329, 1000000)] : List (Nat × Nat)).map (kiW 11), w ∈ GT := GT_list _ [1389, 1617] (by decide +kernel) (by decide +kernel)
theorem kik_11 : ∀ w ∈ (kiL 11).map (kiW 11), w ∈ GT := kik_11_0
theorem kik_16_0 : ∀ w ∈ ([(265, 1431655765), (266, 858993459), (267, 252645135)] : List (Nat × Nat)).map (kiW 16), w ∈ GT := GT_list _ [891, 892, 893] (by decide +kernel) (by decide +kernel)
theorem kik_16 : ∀ w ∈ (kiL 16).map (kiW 16), w ∈ GT := kik_16_0
theorem kik_ok : ∀ (o : Nat), ∀ w ∈ (kiL o).map (kiW o), w ∈ GT
  | 0 => (fun w hw => by cases hw)
  | 1 => (fun w hw => by cases hw)
  | 2 => (fun w hw => by cases hw)
  | 3 => (fun w hw => by cases hw)
  | 4 => (fun w hw => by cases hw)
  | 5 => (fun w hw => by cases hw)
  | 6 => (fun w hw => by cases hw)
  | 7 => (fun w hw => by cases hw)
  | 8 => kik_8
  | 9 => (fun w hw => by cases hw)
  | 10 => kik_10
  | 11 => kik_11
  | 12 => (fun w hw => by cases hw)
  | 13 => (fun w hw => by cases hw)
  | 14 => (fun w hw => by cases hw)
  | 15 => (fun w hw => by cases hw)
  | 16 => kik_16
  | 17 => (fun w hw => by cases hw)
  | 18 => (fun w hw => by cases hw)
  | n + 19 => (fun w hw => by cases hw)
theorem klk_2_0 : ∀ w ∈ ([(13, 1103515245), (15, 12345), (17, 2147483647), (19, 65536), (21, 100)] : List (Nat × Nat)).map (klW 2), w ∈ GT := GT_list _ [1181, 1182, 1183, 1184, 1185] (by decide +kernel) (by decide +kernel)
theorem klk_2 : ∀ w ∈ (klL 2).map (klW 2), w ∈ GT := klk_2_0
theorem klk_11_0 : ∀ w ∈ ([(86, 2), (96, 6), (98, 3), (119, 97), (121, 122), (123, 48), (125, 57), (282, 4), (432, 7), (458, 99), (463, 1103515245), (465, 12345), (467, 2147483648), (469, 65536), (471, 100), (477, 2000000000), (486, 20)] : List (Nat × Nat)).map (klW 11), w ∈ GT := GT_list _ [1353, 1529, 1766, 1385, 1386, 1387, 1388, 1500, 1854, 1914, 1939, 1940, 1941, 1942, 1943, 1934, 1952] (by decide +kernel) (by decide +kernel)
theorem klk_11 : ∀ w ∈ (klL 11).map (klW 11), w ∈ GT := klk_11_0
theorem klk_12_0 : ∀ w ∈ ([(262, 4294967295)] : List (Nat × Nat)).map (klW 12), w ∈ GT := GT_list _ [1972] (by decide +kernel) (by decide +kernel)
theorem klk_12 : ∀ w ∈ (klL 12).map (klW 12), w ∈ GT := klk_12_0
theorem klk_ok : ∀ (o : Nat), ∀ w ∈ (klL o).map (klW o), w ∈ GT
  | 0 => (fun w hw => by cases hw)
  | 1 => (fun w hw => by cases hw)
  | 2 => klk_2
  | 3 => (fun w hw => by cases hw)
  | 4 => (fun w hw => by cases hw)
  | 5 => (fun w hw => by cases hw)
  | 6 => (fun w hw => by cases hw)
  | 7 => (fun w hw => by cases hw)
  | 8 => (fun w hw => by cases hw)
  | 9 => (fun w hw => by cases hw)
  | 10 => (fun w hw => by cases hw)
  | 11 => klk_11
  | 12 => klk_12
  | 13 => (fun w hw => by cases hw)
  | 14 => (fun w hw => by cases hw)
  | 15 => (fun w hw => by cases hw)
  | 16 => (fun w hw => by cases hw)
  | 17 => (fun w hw => by cases hw)
  | 18 => (fun w hw => by cases hw)
  | n + 19 => (fun w hw => by cases hw)
theorem nek_3_0 : ∀ w ∈ ([(9, 0)] : List (Nat × Nat)).map (neW 3), w ∈ GT := GT_list _ [224] (by decide +kernel) (by decide +kernel)
theorem nek_3 : ∀ w ∈ (neL 3).map (neW 3), w ∈ GT := nek_3_0
theorem nek_4_0 : ∀ w ∈ ([(15, 8)] : List (Nat × Nat)).map (neW 4), w ∈ GT := GT_list _ [52] (by decide +kernel) (by decide +kernel)
theorem nek_4 : ∀ w ∈ (neL 4).map (neW 4), w ∈ GT := nek_4_0
theorem nek_10_0 : ∀ w ∈ ([(9, 7), (16, 4), (25, 9), (39, 1), (49, 5), (58, 0), (67, 3), (74, 2), (81, 6)] : List (Nat × Nat)).map (neW 10), w ∈ GT := GT_list _ [29, 46, 89, 127, 141, 172, 218, 255, 265] (by decide +kernel) (by decide +kernel)
theorem nek_10 : ∀ w ∈ (neL 10).map (neW 10), w ∈ GT := nek_10_0
theorem nek_12_0 : ∀ w ∈ ([(7, 10), (10, 11)] : List (Nat × Nat)).map (neW 12), w ∈ GT := GT_list _ [21, 1238] (by decide +kernel) (by decide +kernel)
theorem nek_12 : ∀ w ∈ (neL 12).map (neW 12), w ∈ GT := nek_12_0
theorem nek_ok : ∀ (o : Nat), ∀ w ∈ (neL o).map (neW o), w ∈ GT
  | 0 => (fun w hw => by cases hw)
  | 1 => (fun w hw => by cases hw)
  | 2 => (fun w hw => by cases hw)
  | 3 => nek_3
  | 4 => nek_4
  | 5 => (fun w hw => by cases hw)
  | 6 => (fun w hw => by cases hw)
  | 7 => (fun w hw => by cases hw)
  | 8 => (fun w hw => by cases hw)
  | 9 => (fun w hw => by cases hw)
  | 10 => nek_10
  | 11 => (fun w hw => by cases hw)
  | 12 => nek_12
  | 13 => (fun w hw => by cases hw)
  | 14 => (fun w hw => by cases hw)
  | 15 => (fun w hw => by cases hw)
  | 16 => (fun w hw => by cases hw)
  | 17 => (fun w hw => by cases hw)
  | 18 => (fun w hw => by cases hw)
  | n + 19 => (fun w hw => by cases hw)
theorem sv_ok : ∀ w ∈ svL.map svW, w ∈ GT := GT_list _ [1973, 1974] (by decide +kernel) (by decide +kernel)
theorem sf_ok : ∀ w ∈ sfL.map sfW, w ∈ GT := GT_list _ [443, 445, 398, 414] (by decide +kernel) (by decide +kernel)
theorem ac_ok : ∀ w ∈ acL.map acW, w ∈ GT := GT_list _ [864, 979, 552, 1237] (by decide +kernel) (by decide +kernel)
theorem ob_ok : ∀ w ∈ obL.map obW, w ∈ GT := GT_list _ [177, 133, 260, 223, 51, 147, 271, 34, 57, 94, 26, 1243] (by decide +kernel) (by decide +kernel)
theorem st_w1 : ∀ w ∈ stL.map (fun e => Cond.static (yN e.1)), w ∈ GT := GT_list _ [448, 374, 969, 1076, 1157, 1091, 1355, 1688, 1611, 1764, 1848, 1932, 1864, 1966, 889, 742, 516, 870, 412, 409, 1215, 363, 417] (by decide +kernel) (by decide +kernel)
theorem st_w2 : ∀ w ∈ stL.map (fun e => cdW e.1), w ∈ GT := GT_list _ [449, 375, 970, 1077, 1158, 1092, 1356, 1689, 1612, 1765, 1849, 1933, 1865, 1967, 890, 743, 517, 871, 413, 410, 1216, 364, 418] (by decide +kernel) (by decide +kernel)
theorem st_w3 : ∀ w ∈ stL.map (fun e => Cond.initialized (yN e.1).cls), w ∈ GT := GT_list _ [3, 4, 1, 1, 1, 1, 12, 12, 12, 12, 12, 12, 12, 12, 20, 18, 18, 18, 14, 15, 13, 13, 16] (by decide +kernel) (by decide +kernel)
theorem sp_w1 : ∀ w ∈ spL.map (fun e => Cond.instanceMethod (yN e.1)), w ∈ GT := GT_list _ [175, 131, 258, 221, 49, 145, 269, 32, 55, 92, 24, 1241] (by decide +kernel) (by decide +kernel)
theorem sp_w2 : ∀ w ∈ spL.map (fun e => cdW e.1), w ∈ GT := GT_list _ [176, 132, 259, 222, 50, 146, 270, 33, 56, 93, 25, 1242] (by decide +kernel) (by decide +kernel)
theorem sp_w3 : ∀ w ∈ spL.map (fun e => Cond.initialized (yN e.1).cls), w ∈ GT := GT_list _ [8, 6, 10, 9, 3, 7, 11, 2, 4, 5, 1, 12] (by decide +kernel) (by decide +kernel)
