def zFL_0 : List (Nat × Nat × Nat × Bool × Nat) := [(11, 0, 2, false, 439), (15, 0, 3, false, 441), (18, 0, 4, false, 443), (21, 0, 5, false, 445), (24, 0, 6, false, 447), (27, 0, 0, false, 434), (31, 3, 5, true, 234), (36, 3, 1, true, 217), (39, 3, 2, true, 222), (42, 3, 3, true, 226), (45, 0, 1, false, 437)]
def zFL_1 : List (Nat × Nat × Nat × Bool × Nat) := [(12, 1, 2, false, 542), (21, 1, 3, false, 544), (25, 1, 4, false, 545), (30, 1, 5, false, 546), (35, 1, 6, false, 548), (41, 1, 7, false, 549), (44, 1, 8, false, 550), (48, 1, 9, false, 551), (52, 1, 10, false, 553), (55, 1, 11, false, 554), (58, 1, 12, false, 555), (61, 1, 13, false, 556), (64, 1, 0, false, 540), (68, 1, 1, false, 541), (79, 0, 0, true, 435), (85, 5, 3, true, 306), (90, 0, 1, true, 436), (91, 5, 7, true, 324), (94, 5, 16, true, 354), (109, 0, 6, true, 448), (112, 3, 6, true, 241), (125, 3, 0, true, 213), (128, 5, 14, true, 348), (131, 5, 15, true, 351), (146, 7, 0, true, 519), (149, 7, 1, true, 521), (155, 5, 2, true, 302), (172, 5, 1, true, 298), (177, 5, 4, true, 312), (180, 5, 8, true, 329), (183, 5, 9, true, 333), (196, 0, 4, true, 444), (199, 3, 5, true, 238), (202, 3, 1, true, 219), (209, 1, 14, false, 558), (212, 5, 6, true, 321), (215, 3, 4, true, 232), (225, 1, 15, false, 560), (228, 1, 16, false, 562), (234, 0, 2, true, 440), (237, 0, 3, true, 442), (240, 0, 5, true, 446), (243, 3, 11, true, 259), (246, 3, 12, true, 262), (249, 3, 10, true, 256), (252, 3, 9, true, 252), (270, 6, 2, true, 616)]
def zFL_2 : List (Nat × Nat × Nat × Bool × Nat) := [(9, 2, 0, false, 501), (21, 5, 2, true, 300), (27, 2, 1, false, 502), (28, 5, 5, true, 315), (31, 5, 11, true, 339), (35, 5, 12, true, 342), (38, 5, 13, true, 345), (49, 2, 2, false, 503), (53, 5, 4, true, 311)]
def zFL_3 : List (Nat × Nat × Nat × Bool × Nat) := [(9, 3, 8, false, 247), (15, 3, 0, false, 212), (19, 3, 1, false, 216), (22, 3, 2, false, 221), (25, 3, 3, false, 225), (28, 3, 4, false, 230), (31, 3, 5, false, 236), (34, 3, 6, false, 240), (37, 3, 7, false, 245), (46, 3, 9, false, 250), (50, 3, 10, false, 254), (53, 3, 11, false, 257), (56, 3, 12, false, 260)]
def zFL_4 : List (Nat × Nat × Nat × Bool × Nat) := [(9, 4, 0, false, 392), (18, 4, 1, false, 393), (22, 4, 9, false, 403), (38, 4, 2, false, 395), (41, 4, 5, false, 398), (44, 4, 8, false, 401), (50, 4, 3, false, 396), (56, 4, 4, false, 397), (65, 4, 6, false, 399), (87, 4, 7, false, 400), (90, 5, 1, true, 297), (96, 5, 2, true, 303), (99, 5, 0, true, 294), (144, 5, 3, true, 307), (147, 5, 4, true, 313), (165, 5, 8, true, 330), (169, 5, 9, true, 334), (172, 5, 10, true, 337), (175, 5, 5, true, 317), (183, 5, 11, true, 340), (186, 5, 12, true, 343), (189, 5, 13, true, 346), (192, 5, 6, true, 320), (199, 5, 14, true, 349), (201, 5, 15, true, 352), (203, 5, 7, true, 325), (206, 5, 16, true, 356), (210, 3, 0, true, 215), (216, 3, 1, true, 220), (223, 3, 4, true, 233), (225, 3, 5, true, 239), (229, 3, 6, true, 243), (235, 3, 9, true, 251), (239, 3, 2, true, 224), (242, 3, 3, true, 228), (247, 3, 7, true, 246), (252, 3, 8, true, 249), (260, 3, 10, true, 255), (263, 3, 11, true, 258), (266, 3, 12, true, 261)]
def zFL_5 : List (Nat × Nat × Nat × Bool × Nat) := [(9, 5, 8, false, 327), (15, 5, 9, false, 331), (18, 5, 10, false, 335), (21, 5, 11, false, 338), (24, 5, 12, false, 341), (27, 5, 13, false, 344), (30, 5, 14, false, 347), (33, 5, 15, false, 350), (38, 5, 16, false, 353), (43, 5, 0, false, 292), (47, 5, 1, false, 295), (50, 5, 2, false, 301), (53, 5, 3, false, 305), (56, 5, 4, false, 309), (59, 5, 5, false, 316), (62, 5, 6, false, 319), (65, 5, 7, false, 323)]
def zFL_6 : List (Nat × Nat × Nat × Bool × Nat) := [(13, 6, 0, false, 611), (16, 6, 1, false, 613), (20, 6, 2, false, 615)]
def zFL_7 : List (Nat × Nat × Nat × Bool × Nat) := [(11, 7, 1, false, 520), (15, 7, 2, false, 522), (18, 7, 3, false, 523), (21, 7, 4, false, 524), (24, 7, 5, false, 525), (27, 3, 4, true, 229), (37, 3, 7, true, 244), (40, 3, 8, true, 248), (47, 3, 5, true, 235), (50, 7, 0, false, 518), (53, 8, 1, true, 481), (59, 8, 2, true, 483), (61, 8, 3, true, 485)]
def zFL_8 : List (Nat × Nat × Nat × Bool × Nat) := [(11, 8, 0, false, 479), (16, 8, 1, false, 480), (19, 8, 2, false, 482), (22, 8, 3, false, 484), (33, 5, 4, true, 310), (39, 5, 8, true, 328), (42, 5, 9, true, 332), (45, 5, 10, true, 336), (46, 5, 1, true, 296)]
def zFL_9 : List (Nat × Nat × Nat × Bool × Nat) := [(9, 9, 0, false, 627), (18, 9, 2, false, 629), (25, 9, 3, false, 630), (32, 9, 5, false, 632), (41, 9, 4, false, 631), (48, 9, 6, false, 633), (52, 9, 7, false, 634), (56, 9, 8, false, 635), (60, 9, 1, false, 628), (71, 4, 8, true, 402), (74, 4, 1, true, 394), (84, 5, 0, true, 293), (87, 4, 9, true, 404), (94, 1, 2, true, 543), (111, 5, 16, true, 355), (115, 3, 0, true, 214), (120, 3, 1, true, 218), (123, 3, 2, true, 223), (126, 3, 3, true, 227), (129, 3, 4, true, 231), (132, 3, 5, true, 237), (135, 3, 6, true, 242), (138, 0, 6, true, 449), (145, 1, 5, true, 547), (174, 5, 2, true, 304), (194, 5, 3, true, 308), (197, 0, 1, true, 438), (214, 1, 14, true, 559), (217, 1, 15, true, 561), (220, 1, 16, true, 563), (239, 3, 9, true, 253), (259, 1, 9, true, 552), (262, 5, 7, true, 326), (278, 6, 2, true, 617), (295, 1, 13, true, 557), (320, 5, 1, true, 299), (323, 5, 4, true, 314), (326, 5, 5, true, 318), (329, 5, 6, true, 322), (343, 6, 1, true, 614), (349, 6, 0, true, 612)]
def zFL_10 : List (Nat × Nat × Nat × Bool × Nat) := [(9, 10, 1, false, 1372), (13, 10, 2, false, 1373), (16, 10, 3, false, 1374), (20, 10, 4, false, 1375), (24, 10, 6, false, 1377), (27, 10, 13, false, 1384), (31, 10, 14, false, 1385), (34, 10, 15, false, 1386), (37, 10, 16, false, 1387), (40, 10, 17, false, 1388), (43, 10, 18, false, 1389), (46, 10, 19, false, 1390), (49, 10, 20, false, 1391), (52, 10, 21, false, 1392), (55, 10, 22, false, 1393), (58, 10, 23, false, 1394), (61, 10, 25, false, 1396), (64, 10, 27, false, 1398), (67, 10, 28, false, 1399), (70, 10, 33, false, 1404), (73, 10, 34, false, 1405), (76, 10, 35, false, 1406), (79, 10, 36, false, 1407), (82, 10, 38, false, 1409), (85, 10, 39, false, 1410), (88, 10, 40, false, 1411), (92, 10, 41, false, 1412), (112, 10, 5, false, 1376), (115, 10, 7, false, 1378), (118, 10, 8, false, 1379), (125, 10, 9, false, 1380), (128, 10, 10, false, 1381), (139, 10, 11, false, 1382), (149, 10, 12, false, 1383), (274, 10, 24, false, 1395), (313, 10, 26, false, 1397), (363, 10, 29, false, 1400), (366, 10, 30, false, 1401), (369, 10, 31, false, 1402), (372, 10, 32, false, 1403), (436, 10, 37, false, 1408)]
def zFL_11 : List (Nat × Nat × Nat × Bool × Nat) := []
def zFL_12 : List (Nat × Nat × Nat × Bool × Nat) := []
def zFL (oc : Nat) : List (Nat × Nat × Nat × Bool × Nat) := ([zFL_0, zFL_1, zFL_2, zFL_3, zFL_4, zFL_5, zFL_6, zFL_7, zFL_8, zFL_9, zFL_10, zFL_11, zFL_12] : List (List (Nat × Nat × Nat × Bool × Nat))).getD oc []
def zMK_0 : List (Nat × Nat × Nat × Bool × Nat) := [(3, 3, 0, false, 433), (48, 0, 2, false, 1005), (52, 0, 3, false, 1009), (56, 0, 5, false, 1001)]
def zMK_1 : List (Nat × Nat × Nat × Bool × Nat) := [(3, 3, 0, false, 470), (11, 2, 99, true, 473), (20, 2, 41, true, 497), (34, 2, 89, true, 514), (72, 0, 100, true, 865), (76, 0, 42, true, 880), (97, 0, 1, true, 891), (101, 0, 90, true, 895), (105, 0, 10, false, 907), (117, 0, 11, false, 911), (121, 0, 12, false, 923), (134, 0, 94, true, 915), (138, 0, 78, true, 927), (142, 0, 91, true, 955), (152, 0, 96, true, 1201), (158, 0, 15, false, 1147), (161, 0, 19, false, 1059), (164, 0, 7, true, 1042), (168, 0, 20, false, 1046), (173, 0, 6, true, 1050), (186, 0, 5, true, 1108), (189, 0, 17, false, 1096), (192, 0, 22, false, 1104), (205, 0, 24, false, 1100), (218, 0, 27, false, 1121), (221, 0, 28, false, 1125), (231, 0, 23, false, 1152), (256, 0, 31, false, 1180), (259, 0, 32, false, 1181), (262, 0, 33, false, 1196), (266, 0, 36, false, 1258), (275, 0, 86, true, 1262), (279, 0, 44, true, 1295), (283, 0, 39, false, 1320)]
def zMK_2 : List (Nat × Nat × Nat × Bool × Nat) := [(3, 3, 0, false, 500), (15, 1, 279, false, 884), (41, 0, 43, false, 887), (45, 0, 42, false, 1299), (56, 0, 45, false, 1300)]
def zMK_3 : List (Nat × Nat × Nat × Bool × Nat) := [(3, 3, 0, false, 211), (40, 6, 0, false, 860)]
def zMK_4 : List (Nat × Nat × Nat × Bool × Nat) := [(3, 3, 0, false, 198), (17, 2, 73, true, 201), (26, 0, 74, true, 675), (29, 4, 0, false, 679), (35, 5, 0, false, 682), (47, 0, 51, false, 685), (53, 0, 62, false, 698), (59, 0, 52, false, 689), (62, 0, 53, false, 693), (69, 7, 0, false, 707), (75, 8, 0, false, 717), (79, 0, 55, false, 703), (83, 0, 54, false, 755), (93, 0, 58, false, 768), (104, 0, 63, false, 759), (109, 0, 65, false, 774), (114, 0, 66, false, 796), (119, 0, 67, false, 806), (124, 0, 68, false, 813), (129, 0, 71, false, 831), (132, 0, 72, false, 840), (135, 0, 57, false, 845), (138, 0, 56, false, 763), (150, 0, 64, false, 778), (153, 0, 59, false, 782), (158, 0, 80, true, 787), (161, 0, 61, false, 791), (180, 0, 60, false, 801), (219, 0, 69, false, 818), (232, 0, 70, false, 825), (254, 0, 79, true, 835)]
def zMK_5 : List (Nat × Nat × Nat × Bool × Nat) := [(3, 3, 0, false, 204), (42, 2, 47, true, 208), (68, 6, 0, false, 853), (74, 0, 48, true, 856)]
def zMK_6 : List (Nat × Nat × Nat × Bool × Nat) := [(3, 3, 0, false, 605), (23, 1, 280, false, 608), (29, 0, 83, false, 1329), (33, 1, 281, false, 1346)]
def zMK_7 : List (Nat × Nat × Nat × Bool × Nat) := [(3, 3, 0, false, 517), (33, 0, 92, false, 899), (43, 0, 93, false, 903), (64, 0, 46, true, 919)]
def zMK_8 : List (Nat × Nat × Nat × Bool × Nat) := [(3, 3, 0, false, 476), (27, 1, 280, false, 870), (49, 0, 101, false, 871), (53, 0, 102, false, 876), (57, 4, 0, false, 875)]
def zMK_9 : List (Nat × Nat × Nat × Bool × Nat) := [(1, 3, 0, false, 190), (15, 2, 49, true, 195), (24, 2, 73, true, 427), (31, 2, 0, true, 430), (38, 2, 8, true, 467), (47, 2, 81, true, 602), (64, 0, 106, false, 659), (68, 0, 50, true, 671), (77, 0, 75, true, 849), (81, 0, 9, true, 861), (90, 0, 77, true, 939), (98, 0, 103, true, 943), (104, 0, 13, true, 951), (108, 0, 79, true, 963), (142, 0, 78, true, 972), (149, 0, 95, true, 973), (155, 0, 96, true, 981), (158, 0, 150, false, 989), (162, 0, 6, true, 997), (165, 0, 5, true, 1017), (168, 0, 4, true, 1022), (171, 1, 155, false, 993), (177, 0, 76, true, 1034), (181, 0, 19, true, 1038), (184, 0, 18, true, 1055), (187, 0, 21, true, 1064), (190, 1, 158, false, 1072), (198, 0, 10, true, 1079), (201, 0, 151, false, 1084), (205, 0, 15, true, 1088), (208, 0, 25, true, 1092), (211, 0, 26, true, 1117), (223, 1, 157, false, 1137), (226, 0, 16, true, 1143), (229, 0, 29, true, 1148), (233, 1, 156, false, 1140), (236, 0, 30, true, 1160), (243, 0, 31, true, 1168), (246, 0, 33, true, 1176), (250, 1, 159, false, 1189), (253, 0, 34, true, 1192), (256, 0, 14, true, 1197), (265, 0, 98, true, 1210), (269, 0, 82, true, 1222), (272, 0, 83, true, 1226), (275, 0, 152, false, 1230), (281, 0, 86, true, 1234), (285, 0, 97, true, 1238), (288, 0, 154, false, 1246), (291, 0, 35, true, 1254), (298, 0, 23, true, 1271), (301, 0, 37, true, 1276), (304, 1, 160, false, 1284), (307, 1, 161, false, 1288), (310, 0, 38, true, 1291), (314, 0, 39, true, 1308), (317, 0, 40, true, 1316), (332, 0, 84, true, 1325), (335, 0, 85, true, 1342), (339, 0, 87, true, 1353), (346, 0, 88, true, 1361), (353, 6, 0, false, 1365), (359, 0, 153, false, 1250)]
def zMK_10 : List (Nat × Nat × Nat × Bool × Nat) := [(3, 3, 0, false, 1371), (100, 1, 163, false, 1503), (104, 0, 167, false, 1636), (121, 0, 177, false, 1530), (143, 4, 0, false, 1539), (152, 0, 179, false, 1540), (156, 7, 0, false, 1561), (161, 8, 0, false, 1562), (165, 0, 181, false, 1557), (169, 0, 178, false, 1526), (172, 0, 182, false, 1553), (175, 0, 180, false, 1563), (179, 0, 183, false, 1549), (183, 0, 184, false, 1572), (186, 0, 187, false, 1591), (191, 1, 188, false, 1596), (197, 0, 185, false, 1568), (217, 0, 192, false, 1619), (231, 0, 189, false, 1587), (234, 0, 190, false, 1599), (237, 0, 191, false, 1604), (240, 0, 193, false, 1610), (243, 0, 194, false, 1623), (249, 0, 195, false, 1577), (252, 0, 196, false, 1544), (255, 0, 198, false, 1644), (258, 0, 199, false, 1649), (261, 0, 201, false, 1653), (264, 0, 168, false, 1632), (268, 0, 200, false, 1640), (271, 0, 202, false, 1661), (278, 0, 205, false, 1702), (282, 0, 173, false, 1674), (285, 0, 206, false, 1690), (288, 0, 207, false, 1694), (291, 0, 208, false, 1698), (295, 0, 209, false, 1686), (298, 0, 170, false, 1669), (303, 0, 210, false, 1682), (306, 0, 169, false, 1710), (309, 0, 215, false, 1741), (316, 0, 216, false, 1737), (319, 0, 217, false, 1745), (322, 0, 218, false, 1749), (325, 0, 219, false, 1733), (329, 1, 171, false, 1726), (332, 0, 221, false, 1722), (335, 0, 220, false, 1729), (338, 0, 226, false, 1777), (341, 0, 166, false, 1769), (344, 0, 227, false, 1773), (349, 0, 174, false, 1798), (353, 0, 234, false, 1814), (356, 0, 233, false, 1806), (359, 0, 235, false, 1810), (375, 0, 238, false, 1826), (379, 1, 172, false, 1838), (382, 0, 241, false, 1843), (386, 0, 244, false, 1855), (390, 0, 246, false, 1867), (393, 0, 247, false, 1863), (398, 0, 250, false, 1876), (401, 0, 249, false, 1880), (404, 0, 251, false, 1884), (407, 0, 254, false, 1896), (410, 0, 257, false, 1912), (414, 1, 274, false, 1908), (417, 0, 258, false, 1916), (420, 0, 261, false, 1932), (423, 0, 260, false, 1924), (427, 0, 262, false, 1928), (431, 0, 266, false, 1948), (446, 0, 268, false, 1965), (453, 1, 270, false, 1956), (456, 0, 269, false, 1961), (464, 1, 275, false, 1990)]
def zMK_11 : List (Nat × Nat × Nat × Bool × Nat) := []
def zMK_12 : List (Nat × Nat × Nat × Bool × Nat) := [(9, 2, 104, false, 187), (12, 2, 162, false, 1368), (13, 0, 105, false, 655), (17, 0, 175, false, 1510), (18, 0, 107, false, 663), (22, 0, 176, false, 1514), (23, 0, 108, false, 667), (27, 0, 197, false, 1522), (28, 0, 109, false, 931), (31, 0, 186, false, 1518), (32, 0, 110, false, 935), (36, 0, 203, false, 1628), (37, 0, 111, false, 947), (41, 0, 204, false, 1657), (42, 0, 112, false, 959), (45, 0, 211, false, 1665), (46, 0, 113, false, 964), (49, 0, 212, false, 1678), (50, 0, 114, false, 968), (53, 0, 213, false, 1706), (54, 0, 115, false, 977), (57, 0, 214, false, 1714), (58, 0, 116, false, 985), (61, 0, 222, false, 1718), (62, 0, 117, false, 1013), (65, 0, 223, false, 1753), (66, 0, 118, false, 1018), (69, 0, 224, false, 1757), (70, 0, 119, false, 1026), (73, 0, 225, false, 1761), (74, 0, 120, false, 1030), (77, 0, 228, false, 1765), (78, 0, 121, false, 1051), (81, 0, 229, false, 1781), (82, 0, 122, false, 1060), (85, 0, 230, false, 1785), (86, 0, 123, false, 1068), (89, 0, 231, false, 1789), (90, 0, 124, false, 1075), (93, 0, 232, false, 1794), (94, 0, 125, false, 1080), (97, 0, 236, false, 1802), (98, 0, 126, false, 1109), (101, 0, 237, false, 1818), (102, 0, 127, false, 1113), (105, 0, 239, false, 1822), (106, 0, 128, false, 1129), (109, 0, 240, false, 1830), (110, 0, 129, false, 1133), (113, 0, 242, false, 1834), (114, 0, 130, false, 1156), (117, 0, 243, false, 1847), (118, 0, 131, false, 1164), (121, 0, 245, false, 1851), (122, 0, 132, false, 1172), (125, 0, 248, false, 1859), (126, 0, 133, false, 1185), (129, 0, 252, false, 1871), (130, 0, 134, false, 1202), (133, 0, 253, false, 1888), (134, 0, 135, false, 1206), (137, 0, 255, false, 1892), (138, 0, 136, false, 1214), (141, 0, 256, false, 1900), (142, 0, 137, false, 1218), (145, 0, 259, false, 1904), (146, 0, 138, false, 1242), (149, 0, 263, false, 1920), (150, 0, 139, false, 1263), (153, 0, 264, false, 1936), (154, 0, 140, false, 1267), (157, 0, 265, false, 1940), (158, 0, 141, false, 1272), (161, 0, 267, false, 1944), (162, 0, 142, false, 1280), (165, 0, 271, false, 1952), (166, 0, 143, false, 1312), (170, 0, 272, false, 1973), (171, 0, 144, false, 1321), (174, 0, 273, false, 1978), (175, 0, 145, false, 1330), (178, 0, 164, false, 1498), (179, 0, 146, false, 1334), (182, 0, 165, false, 1506), (183, 0, 147, false, 1338), (186, 0, 276, false, 1982), (189, 0, 148, false, 1349), (193, 0, 277, false, 1986), (194, 0, 149, false, 1357), (197, 0, 278, false, 1993)]
def zMK (oc : Nat) : List (Nat × Nat × Nat × Bool × Nat) := ([zMK_0, zMK_1, zMK_2, zMK_3, zMK_4, zMK_5, zMK_6, zMK_7, zMK_8, zMK_9, zMK_10, zMK_11, zMK_12] : List (List (Nat × Nat × Nat × Bool × Nat))).getD oc []
def zKL_0 : List (Nat × Nat × Nat) := []
def zKL_1 : List (Nat × Nat × Nat) := [(9, 8, 471), (18, 2, 495), (28, 106, 511), (28, 7, 511), (39, 107, 539)]
def zKL_2 : List (Nat × Nat × Nat) := []
def zKL_3 : List (Nat × Nat × Nat) := []
def zKL_4 : List (Nat × Nat × Nat) := [(15, 5, 199)]
def zKL_5 : List (Nat × Nat × Nat) := [(36, 104, 205), (36, 3, 205)]
def zKL_6 : List (Nat × Nat × Nat) := [(11, 108, 606)]
def zKL_7 : List (Nat × Nat × Nat) := []
def zKL_8 : List (Nat × Nat × Nat) := [(9, 107, 477)]
def zKL_9 : List (Nat × Nat × Nat) := [(13, 4, 193), (22, 105, 426), (22, 5, 426), (29, 0, 428), (36, 1, 465), (45, 6, 600)]
def zKL_10 : List (Nat × Nat × Nat) := []
def zKL_11 : List (Nat × Nat × Nat) := []
def zKL_12 : List (Nat × Nat × Nat) := [(7, 9, 185), (10, 10, 1366)]
def zKL (oc : Nat) : List (Nat × Nat × Nat) := ([zKL_0, zKL_1, zKL_2, zKL_3, zKL_4, zKL_5, zKL_6, zKL_7, zKL_8, zKL_9, zKL_10, zKL_11, zKL_12] : List (List (Nat × Nat × Nat))).getD oc []
def zKI_0 : List (Nat × Int × Nat) := []
def zKI_1 : List (Nat × Int × Nat) := []
def zKI_2 : List (Nat × Int × Nat) := []
def zKI_3 : List (Nat × Int × Nat) := []
def zKI_4 : List (Nat × Int × Nat) := [(68, 1000000, 697)]
def zKI_5 : List (Nat × Int × Nat) := []
def zKI_6 : List (Nat × Int × Nat) := []
def zKI_7 : List (Nat × Int × Nat) := []
def zKI_8 : List (Nat × Int × Nat) := [(26, 1000000, 869)]
def zKI_9 : List (Nat × Int × Nat) := [(364, 2000000000, 1287)]
def zKI_10 : List (Nat × Int × Nat) := [(142, 99999, 1538), (257, 1000000, 1648)]
def zKI_11 : List (Nat × Int × Nat) := []
def zKI_12 : List (Nat × Int × Nat) := []
def zKI (oc : Nat) : List (Nat × Int × Nat) := ([zKI_0, zKI_1, zKI_2, zKI_3, zKI_4, zKI_5, zKI_6, zKI_7, zKI_8, zKI_9, zKI_10, zKI_11, zKI_12] : List (List (Nat × Int × Nat))).getD oc []
def zKJ_0 : List (Nat × Int × Nat) := []
def zKJ_1 : List (Nat × Int × Nat) := []
def zKJ_2 : List (Nat × Int × Nat) := [(60, 1103515245, 1304), (62, 12345, 1305), (64, 2147483648, 1306), (66, 65536, 1307)]
def zKJ_3 : List (Nat × Int × Nat) := []
def zKJ_4 : List (Nat × Int × Nat) := []
def zKJ_5 : List (Nat × Int × Nat) := []
def zKJ_6 : List (Nat × Int × Nat) := []
def zKJ_7 : List (Nat × Int × Nat) := []
def zKJ_8 : List (Nat × Int × Nat) := []
def zKJ_9 : List (Nat × Int × Nat) := [(362, 3, 996)]
def zKJ_10 : List (Nat × Int × Nat) := [(98, 2, 1502), (108, -1, 1841), (110, 9, 1842), (131, 97, 1534), (133, 122, 1535), (135, 48, 1536), (137, 57, 1537), (301, 6, 1673), (347, 99, 1793), (396, 50, 1875), (434, 1103515245, 1969), (440, 12345, 1970), (442, 2147483648, 1971), (444, 65536, 1972), (449, 2000000000, 1959), (451, 100, 1960), (460, 20, 1977), (462, 3, 1911)]
def zKJ_11 : List (Nat × Int × Nat) := []
def zKJ_12 : List (Nat × Int × Nat) := [(187, 4294967295, 1997)]
def zKJ (oc : Nat) : List (Nat × Int × Nat) := ([zKJ_0, zKJ_1, zKJ_2, zKJ_3, zKJ_4, zKJ_5, zKJ_6, zKJ_7, zKJ_8, zKJ_9, zKJ_10, zKJ_11, zKJ_12] : List (List (Nat × Int × Nat))).getD oc []
def zKS_0 : List (Nat × Nat × Nat) := []
def zKS_1 : List (Nat × Nat × Nat) := []
def zKS_2 : List (Nat × Nat × Nat) := []
def zKS_3 : List (Nat × Nat × Nat) := []
def zKS_4 : List (Nat × Nat × Nat) := [(102, 0, 702), (107, 1, 773), (112, 2, 795), (117, 3, 805), (122, 4, 812), (127, 5, 830), (142, 6, 767), (143, 7, 772), (156, 8, 786), (178, 9, 800), (195, 10, 810), (197, 11, 811), (214, 12, 817), (227, 13, 824), (245, 14, 822), (246, 15, 823), (250, 16, 829), (258, 17, 839), (269, 18, 844)]
def zKS_5 : List (Nat × Nat × Nat) := []
def zKS_6 : List (Nat × Nat × Nat) := []
def zKS_7 : List (Nat × Nat × Nat) := []
def zKS_8 : List (Nat × Nat × Nat) := []
def zKS_9 : List (Nat × Nat × Nat) := []
def zKS_10 : List (Nat × Nat × Nat) := [(189, 8, 1595), (195, 7, 1576), (201, 9, 1603), (202, 10, 1608), (204, 11, 1609), (206, 3, 1583), (208, 12, 1614), (210, 14, 1615), (212, 15, 1616), (214, 13, 1617), (215, 16, 1618), (220, 17, 1627), (221, 1, 1581), (223, 2, 1582), (225, 4, 1584), (227, 5, 1585), (229, 18, 1586), (246, 0, 1548), (248, 6, 1567)]
def zKS_11 : List (Nat × Nat × Nat) := []
def zKS_12 : List (Nat × Nat × Nat) := []
def zKS (oc : Nat) : List (Nat × Nat × Nat) := ([zKS_0, zKS_1, zKS_2, zKS_3, zKS_4, zKS_5, zKS_6, zKS_7, zKS_8, zKS_9, zKS_10, zKS_11, zKS_12] : List (List (Nat × Nat × Nat))).getD oc []
def zLk {α : Type} (l : List (Nat × α)) (ix : Nat) : Option α := match l with
  | [] => none
  | e :: l => if e.1 = ix then some e.2 else zLk l ix
theorem zLk_mem {α : Type} : ∀ {l : List (Nat × α)} {ix : Nat} {a : α}, zLk l ix = some a → (ix, a) ∈ l
  | [], _, _, h => by simp [zLk] at h
  | e :: l, ix, a, h => by
    unfold zLk at h
    by_cases he : e.1 = ix
    · rw [if_pos he] at h
      have h1 : e.2 = a := Option.some.inj h
      have h2 : e = (ix, a) := by rw [← he, ← h1]
      rw [h2]
      exact List.mem_cons_self
    · rw [if_neg he] at h
      exact List.mem_cons_of_mem _ (zLk_mem h)
def zCNm (oc : Nat) : String := zCN.getD oc ""
def zSTR : List String := ["realm", "road", "flood", "rider", "order", "wish", "towns", "hours", "to", "from", "pace", "rests", "on", "at", "undoes", "says", "via", "in", "seal"]
def zFok (oc : Nat) (e : Nat × Nat × Nat × Bool × Nat) : Bool := match zCl[e.2.1]? with
  | none => false
  | some q => decide (e.2.2.1 < q.2.2) && decide ((q.2.1 e.2.2.1).1 = q.1) && decide (lw_tbl[e.2.2.2.2]? = some (bif e.2.2.2.1 then Cond.fieldLinkNest (zCNm oc) e.1 q.1 (q.2.1 e.2.2.1).2.1 (q.2.1 e.2.2.1).2.2.1 "SlowOrder" else Cond.fieldLink (zCNm oc) e.1 q.1 (q.2.1 e.2.2.1).2.1 (q.2.1 e.2.2.1).2.2.1))
set_option maxRecDepth 100000 in
theorem zFL0_ok : (zFL_0).all (zFok 0) = true := by decide +kernel
set_option maxRecDepth 100000 in
theorem zFL1_ok : (zFL_1).all (zFok 1) = true := by decide +kernel
set_option maxRecDepth 100000 in
theorem zFL2_ok : (zFL_2).all (zFok 2) = true := by decide +kernel
set_option maxRecDepth 100000 in
theorem zFL3_ok : (zFL_3).all (zFok 3) = true := by decide +kernel
set_option maxRecDepth 100000 in
theorem zFL4_ok : (zFL_4).all (zFok 4) = true := by decide +kernel
set_option maxRecDepth 100000 in
theorem zFL5_ok : (zFL_5).all (zFok 5) = true := by decide +kernel
set_option maxRecDepth 100000 in
theorem zFL6_ok : (zFL_6).all (zFok 6) = true := by decide +kernel
set_option maxRecDepth 100000 in
theorem zFL7_ok : (zFL_7).all (zFok 7) = true := by decide +kernel
set_option maxRecDepth 100000 in
theorem zFL8_ok : (zFL_8).all (zFok 8) = true := by decide +kernel
set_option maxRecDepth 100000 in
theorem zFL9_ok : (zFL_9).all (zFok 9) = true := by decide +kernel
set_option maxRecDepth 100000 in
theorem zFL10_ok : (zFL_10).all (zFok 10) = true := by decide +kernel
set_option maxRecDepth 100000 in
theorem zFL11_ok : (zFL_11).all (zFok 11) = true := by decide +kernel
set_option maxRecDepth 100000 in
theorem zFL12_ok : (zFL_12).all (zFok 12) = true := by decide +kernel
def zprimY (k : Nat) : MethodName := match k with
  | 3 => ⟨"java/lang/Object", "<init>", "()V"⟩
  | 4 => ⟨"java/lang/Math", "min", "(II)I"⟩
  | 5 => ⟨"java/lang/Math", "max", "(II)I"⟩
  | 6 => ⟨"java/lang/System", "arraycopy", "(Ljava/lang/Object;ILjava/lang/Object;II)V"⟩
  | 7 => ⟨"java/lang/String", "length", "()I"⟩
  | _ => ⟨"java/lang/String", "charAt", "(I)C"⟩
def zMKy (e : Nat × Nat × Nat × Bool × Nat) : MethodName := if e.2.1 ≤ 2 then zY e.2.2.1 else zprimY e.2.1
def zMok (oc : Nat) (e : Nat × Nat × Nat × Bool × Nat) : Bool := decide (lw_tbl[e.2.2.2.2]? = some (bif e.2.2.2.1 then Cond.methodLinkNest (zCNm oc) e.1 (zMKy e) "SlowOrder" else Cond.methodLink (zCNm oc) e.1 (zMKy e))) && decide (e.2.1 ≤ 2 → e.2.2.1 < zNM)
set_option maxRecDepth 100000 in
theorem zMK0_ok : (zMK_0).all (zMok 0) = true := by decide +kernel
set_option maxRecDepth 100000 in
theorem zMK1_ok : (zMK_1).all (zMok 1) = true := by decide +kernel
set_option maxRecDepth 100000 in
theorem zMK2_ok : (zMK_2).all (zMok 2) = true := by decide +kernel
set_option maxRecDepth 100000 in
theorem zMK3_ok : (zMK_3).all (zMok 3) = true := by decide +kernel
set_option maxRecDepth 100000 in
theorem zMK4_ok : (zMK_4).all (zMok 4) = true := by decide +kernel
set_option maxRecDepth 100000 in
theorem zMK5_ok : (zMK_5).all (zMok 5) = true := by decide +kernel
set_option maxRecDepth 100000 in
theorem zMK6_ok : (zMK_6).all (zMok 6) = true := by decide +kernel
set_option maxRecDepth 100000 in
theorem zMK7_ok : (zMK_7).all (zMok 7) = true := by decide +kernel
set_option maxRecDepth 100000 in
theorem zMK8_ok : (zMK_8).all (zMok 8) = true := by decide +kernel
set_option maxRecDepth 100000 in
theorem zMK9_ok : (zMK_9).all (zMok 9) = true := by decide +kernel
set_option maxRecDepth 100000 in
theorem zMK10_ok : (zMK_10).all (zMok 10) = true := by decide +kernel
set_option maxRecDepth 100000 in
theorem zMK11_ok : (zMK_11).all (zMok 11) = true := by decide +kernel
set_option maxRecDepth 100000 in
theorem zMK12_ok : (zMK_12).all (zMok 12) = true := by decide +kernel
/-- what the tables say of an array class by its tag -/
def zTagC (t : Nat) : String := match t with
  | 104 => "SlowOrder$Order"
  | 105 => "SlowOrder$Realm"
  | 106 => "SlowOrder$Trip"
  | 107 => "[[I"
  | 108 => "[[J"
  | t => zCNm t
def zKLok (oc : Nat) (e : Nat × Nat × Nat) : Bool := decide (lw_tbl[e.2.2]? = some (Cond.classLink (zCNm oc) e.1 (zTagC e.2.1)))
def zKIok (oc : Nat) (e : Nat × Int × Nat) : Bool := decide (lw_tbl[e.2.2]? = some (Cond.constant (zCNm oc) e.1 (Int32.ofInt e.2.1)))
def zKJok (oc : Nat) (e : Nat × Int × Nat) : Bool := decide (lw_tbl[e.2.2]? = some (Cond.constantLong (zCNm oc) e.1 (Int64.ofInt e.2.1)))
def zKSok (oc : Nat) (e : Nat × Nat × Nat) : Bool := decide (lw_tbl[e.2.2]? = some (Cond.stringRef (zCNm oc) e.1 (zSTR.getD e.2.1 "")))
set_option maxRecDepth 100000 in
theorem zKL0_ok : (zKL_0).all (zKLok 0) = true := by decide +kernel
set_option maxRecDepth 100000 in
theorem zKL1_ok : (zKL_1).all (zKLok 1) = true := by decide +kernel
set_option maxRecDepth 100000 in
theorem zKL2_ok : (zKL_2).all (zKLok 2) = true := by decide +kernel
set_option maxRecDepth 100000 in
theorem zKL3_ok : (zKL_3).all (zKLok 3) = true := by decide +kernel
set_option maxRecDepth 100000 in
theorem zKL4_ok : (zKL_4).all (zKLok 4) = true := by decide +kernel
set_option maxRecDepth 100000 in
theorem zKL5_ok : (zKL_5).all (zKLok 5) = true := by decide +kernel
set_option maxRecDepth 100000 in
theorem zKL6_ok : (zKL_6).all (zKLok 6) = true := by decide +kernel
set_option maxRecDepth 100000 in
theorem zKL7_ok : (zKL_7).all (zKLok 7) = true := by decide +kernel
set_option maxRecDepth 100000 in
theorem zKL8_ok : (zKL_8).all (zKLok 8) = true := by decide +kernel
set_option maxRecDepth 100000 in
theorem zKL9_ok : (zKL_9).all (zKLok 9) = true := by decide +kernel
set_option maxRecDepth 100000 in
theorem zKL10_ok : (zKL_10).all (zKLok 10) = true := by decide +kernel
set_option maxRecDepth 100000 in
theorem zKL11_ok : (zKL_11).all (zKLok 11) = true := by decide +kernel
set_option maxRecDepth 100000 in
theorem zKL12_ok : (zKL_12).all (zKLok 12) = true := by decide +kernel
set_option maxRecDepth 100000 in
theorem zKI0_ok : (zKI_0).all (zKIok 0) = true := by decide +kernel
set_option maxRecDepth 100000 in
theorem zKI1_ok : (zKI_1).all (zKIok 1) = true := by decide +kernel
set_option maxRecDepth 100000 in
theorem zKI2_ok : (zKI_2).all (zKIok 2) = true := by decide +kernel
set_option maxRecDepth 100000 in
theorem zKI3_ok : (zKI_3).all (zKIok 3) = true := by decide +kernel
set_option maxRecDepth 100000 in
theorem zKI4_ok : (zKI_4).all (zKIok 4) = true := by decide +kernel
set_option maxRecDepth 100000 in
theorem zKI5_ok : (zKI_5).all (zKIok 5) = true := by decide +kernel
set_option maxRecDepth 100000 in
theorem zKI6_ok : (zKI_6).all (zKIok 6) = true := by decide +kernel
set_option maxRecDepth 100000 in
theorem zKI7_ok : (zKI_7).all (zKIok 7) = true := by decide +kernel
set_option maxRecDepth 100000 in
theorem zKI8_ok : (zKI_8).all (zKIok 8) = true := by decide +kernel
set_option maxRecDepth 100000 in
theorem zKI9_ok : (zKI_9).all (zKIok 9) = true := by decide +kernel
set_option maxRecDepth 100000 in
theorem zKI10_ok : (zKI_10).all (zKIok 10) = true := by decide +kernel
set_option maxRecDepth 100000 in
theorem zKI11_ok : (zKI_11).all (zKIok 11) = true := by decide +kernel
set_option maxRecDepth 100000 in
theorem zKI12_ok : (zKI_12).all (zKIok 12) = true := by decide +kernel
set_option maxRecDepth 100000 in
theorem zKJ0_ok : (zKJ_0).all (zKJok 0) = true := by decide +kernel
set_option maxRecDepth 100000 in
theorem zKJ1_ok : (zKJ_1).all (zKJok 1) = true := by decide +kernel
set_option maxRecDepth 100000 in
theorem zKJ2_ok : (zKJ_2).all (zKJok 2) = true := by decide +kernel
set_option maxRecDepth 100000 in
theorem zKJ3_ok : (zKJ_3).all (zKJok 3) = true := by decide +kernel
set_option maxRecDepth 100000 in
theorem zKJ4_ok : (zKJ_4).all (zKJok 4) = true := by decide +kernel
set_option maxRecDepth 100000 in
theorem zKJ5_ok : (zKJ_5).all (zKJok 5) = true := by decide +kernel
set_option maxRecDepth 100000 in
theorem zKJ6_ok : (zKJ_6).all (zKJok 6) = true := by decide +kernel
set_option maxRecDepth 100000 in
theorem zKJ7_ok : (zKJ_7).all (zKJok 7) = true := by decide +kernel
set_option maxRecDepth 100000 in
theorem zKJ8_ok : (zKJ_8).all (zKJok 8) = true := by decide +kernel
set_option maxRecDepth 100000 in
theorem zKJ9_ok : (zKJ_9).all (zKJok 9) = true := by decide +kernel
set_option maxRecDepth 100000 in
theorem zKJ10_ok : (zKJ_10).all (zKJok 10) = true := by decide +kernel
set_option maxRecDepth 100000 in
theorem zKJ11_ok : (zKJ_11).all (zKJok 11) = true := by decide +kernel
set_option maxRecDepth 100000 in
theorem zKJ12_ok : (zKJ_12).all (zKJok 12) = true := by decide +kernel
set_option maxRecDepth 100000 in
theorem zKS0_ok : (zKS_0).all (zKSok 0) = true := by decide +kernel
set_option maxRecDepth 100000 in
theorem zKS1_ok : (zKS_1).all (zKSok 1) = true := by decide +kernel
set_option maxRecDepth 100000 in
theorem zKS2_ok : (zKS_2).all (zKSok 2) = true := by decide +kernel
set_option maxRecDepth 100000 in
theorem zKS3_ok : (zKS_3).all (zKSok 3) = true := by decide +kernel
set_option maxRecDepth 100000 in
theorem zKS4_ok : (zKS_4).all (zKSok 4) = true := by decide +kernel
set_option maxRecDepth 100000 in
theorem zKS5_ok : (zKS_5).all (zKSok 5) = true := by decide +kernel
set_option maxRecDepth 100000 in
theorem zKS6_ok : (zKS_6).all (zKSok 6) = true := by decide +kernel
set_option maxRecDepth 100000 in
theorem zKS7_ok : (zKS_7).all (zKSok 7) = true := by decide +kernel
set_option maxRecDepth 100000 in
theorem zKS8_ok : (zKS_8).all (zKSok 8) = true := by decide +kernel
set_option maxRecDepth 100000 in
theorem zKS9_ok : (zKS_9).all (zKSok 9) = true := by decide +kernel
set_option maxRecDepth 100000 in
theorem zKS10_ok : (zKS_10).all (zKSok 10) = true := by decide +kernel
set_option maxRecDepth 100000 in
theorem zKS11_ok : (zKS_11).all (zKSok 11) = true := by decide +kernel
set_option maxRecDepth 100000 in
theorem zKS12_ok : (zKS_12).all (zKSok 12) = true := by decide +kernel
theorem zFL_ok : ∀ oc, (zFL oc).all (zFok oc) = true := by
  intro oc
  match oc with
  | 0 => exact zFL0_ok
  | 1 => exact zFL1_ok
  | 2 => exact zFL2_ok
  | 3 => exact zFL3_ok
  | 4 => exact zFL4_ok
  | 5 => exact zFL5_ok
  | 6 => exact zFL6_ok
  | 7 => exact zFL7_ok
  | 8 => exact zFL8_ok
  | 9 => exact zFL9_ok
  | 10 => exact zFL10_ok
  | 11 => exact zFL11_ok
  | 12 => exact zFL12_ok
  | n + 13 => rfl
theorem zMK_ok : ∀ oc, (zMK oc).all (zMok oc) = true := by
  intro oc
  match oc with
  | 0 => exact zMK0_ok
  | 1 => exact zMK1_ok
  | 2 => exact zMK2_ok
  | 3 => exact zMK3_ok
  | 4 => exact zMK4_ok
  | 5 => exact zMK5_ok
  | 6 => exact zMK6_ok
  | 7 => exact zMK7_ok
  | 8 => exact zMK8_ok
  | 9 => exact zMK9_ok
  | 10 => exact zMK10_ok
  | 11 => exact zMK11_ok
  | 12 => exact zMK12_ok
  | n + 13 => rfl
theorem zKL_ok : ∀ oc, (zKL oc).all (zKLok oc) = true := by
  intro oc
  match oc with
  | 0 => exact zKL0_ok
  | 1 => exact zKL1_ok
  | 2 => exact zKL2_ok
  | 3 => exact zKL3_ok
  | 4 => exact zKL4_ok
  | 5 => exact zKL5_ok
  | 6 => exact zKL6_ok
  | 7 => exact zKL7_ok
  | 8 => exact zKL8_ok
  | 9 => exact zKL9_ok
  | 10 => exact zKL10_ok
  | 11 => exact zKL11_ok
  | 12 => exact zKL12_ok
  | n + 13 => rfl
theorem zKI_ok : ∀ oc, (zKI oc).all (zKIok oc) = true := by
  intro oc
  match oc with
  | 0 => exact zKI0_ok
  | 1 => exact zKI1_ok
  | 2 => exact zKI2_ok
  | 3 => exact zKI3_ok
  | 4 => exact zKI4_ok
  | 5 => exact zKI5_ok
  | 6 => exact zKI6_ok
  | 7 => exact zKI7_ok
  | 8 => exact zKI8_ok
  | 9 => exact zKI9_ok
  | 10 => exact zKI10_ok
  | 11 => exact zKI11_ok
  | 12 => exact zKI12_ok
  | n + 13 => rfl
theorem zKJ_ok : ∀ oc, (zKJ oc).all (zKJok oc) = true := by
  intro oc
  match oc with
  | 0 => exact zKJ0_ok
  | 1 => exact zKJ1_ok
  | 2 => exact zKJ2_ok
  | 3 => exact zKJ3_ok
  | 4 => exact zKJ4_ok
  | 5 => exact zKJ5_ok
  | 6 => exact zKJ6_ok
  | 7 => exact zKJ7_ok
  | 8 => exact zKJ8_ok
  | 9 => exact zKJ9_ok
  | 10 => exact zKJ10_ok
  | 11 => exact zKJ11_ok
  | 12 => exact zKJ12_ok
  | n + 13 => rfl
theorem zKS_ok : ∀ oc, (zKS oc).all (zKSok oc) = true := by
  intro oc
  match oc with
  | 0 => exact zKS0_ok
  | 1 => exact zKS1_ok
  | 2 => exact zKS2_ok
  | 3 => exact zKS3_ok
  | 4 => exact zKS4_ok
  | 5 => exact zKS5_ok
  | 6 => exact zKS6_ok
  | 7 => exact zKS7_ok
  | 8 => exact zKS8_ok
  | 9 => exact zKS9_ok
  | 10 => exact zKS10_ok
  | 11 => exact zKS11_ok
  | 12 => exact zKS12_ok
  | n + 13 => rfl
def zSTs : List Bool := [false, false, false, false, false, false, false, false, false, false, false, false, false, false, false, false, false, false, false, false, false, false, false, false, false, false, false, false, false, false, false, false, false, false, false, false, false, false, false, false, false, false, false, false, false, false, false, false, false, false, false, false, false, false, false, false, false, false, false, false, false, false, false, false, false, false, false, false, false, false, false, false, false, false, false, false, false, false, false, false, false, false, false, false, false, false, false, false, false, false, false, false, false, false, false, false, false, false, false, false, false, false, false, false, false, false, false, false, false, false, false, false, false, false, false, false, false, false, false, false, false, false, false, false, false, false, false, false, false, false, false, false, false, false, false, false, false, false, false, false, false, false, false, false, false, false, false, false, false, false, false, false, false, false, false, true, true, true, true, true, true, true, false, true, false, false, false, false, false, false, false, true, true, false, false, false, false, false, false, false, false, false, false, false, false, false, false, false, true, false, false, false, false, false, false, false, false, false, false, false, false, false, false, false, false, false, false, false, false, false, false, false, false, false, false, false, false, false, false, false, false, false, false, false, false, false, false, false, false, false, false, false, false, false, false, false, false, false, false, false, false, false, false, false, false, false, false, false, false, false, false, false, false, false, false, false, false, false, false, false, false, false, false, false, false, false, false, false, false, false, true, false, false, false, true, true, false, false, false, true, true, true, true]
def zST (mi : Nat) : Bool := zSTs.getD mi true
def zPs : List Nat := [431, 893, 1007, 1011, 1024, 1003, 999, 1044, 468, 863, 909, 913, 925, 953, 1199, 1090, 1145, 1098, 1057, 1040, 1048, 1066, 1106, 1154, 1102, 1094, 1119, 1123, 1127, 1150, 1162, 1170, 1183, 1178, 1194, 1256, 1260, 1278, 1293, 1310, 1318, 498, 882, 889, 1297, 1302, 921, 209, 858, 196, 673, 687, 691, 695, 757, 705, 765, 847, 770, 784, 803, 793, 700, 761, 780, 776, 798, 808, 815, 820, 827, 833, 842, 202, 677, 851, 1036, 941, 929, 837, 789, 603, 1224, 1228, 1327, 1344, 1236, 1355, 1363, 515, 897, 957, 901, 905, 917, 975, 983, 1240, 1212, 474, 867, 873, 878, 945, 188, 656, 661, 664, 668, 932, 936, 948, 960, 965, 969, 978, 986, 1014, 1019, 1027, 1031, 1052, 1061, 1069, 1076, 1081, 1110, 1114, 1130, 1134, 1157, 1165, 1173, 1186, 1203, 1207, 1215, 1219, 1243, 1264, 1268, 1273, 1281, 1313, 1322, 1331, 1335, 1339, 1350, 1358, 991, 1086, 1232, 1252, 1248, 994, 1141, 1138, 1073, 1190, 1285, 1289, 1369, 1504, 1499, 1507, 1771, 1638, 1634, 1712, 1671, 1727, 1839, 1676, 1800, 1511, 1515, 1532, 1528, 1542, 1565, 1559, 1555, 1551, 1574, 1570, 1519, 1593, 1597, 1589, 1601, 1606, 1621, 1612, 1625, 1579, 1546, 1523, 1646, 1651, 1642, 1655, 1663, 1629, 1658, 1704, 1692, 1696, 1700, 1688, 1684, 1666, 1679, 1707, 1715, 1743, 1739, 1747, 1751, 1735, 1731, 1724, 1719, 1754, 1758, 1762, 1779, 1775, 1766, 1782, 1786, 1790, 1795, 1808, 1816, 1812, 1803, 1819, 1828, 1823, 1831, 1845, 1835, 1848, 1857, 1852, 1869, 1865, 1860, 1882, 1878, 1886, 1872, 1889, 1898, 1893, 1901, 1914, 1918, 1905, 1926, 1934, 1930, 1921, 1937, 1941, 1950, 1945, 1967, 1963, 1957, 1953, 1974, 1979, 1909, 1991, 1983, 1987, 1994, 885, 609, 1347]
def zQs : List Nat := [171, 171, 171, 171, 171, 171, 171, 171, 172, 172, 172, 172, 172, 172, 172, 172, 172, 172, 172, 172, 172, 172, 172, 172, 172, 172, 172, 172, 172, 172, 172, 172, 172, 172, 172, 172, 172, 172, 172, 172, 172, 174, 174, 174, 174, 174, 174, 170, 170, 168, 168, 168, 168, 168, 168, 168, 168, 168, 168, 168, 168, 168, 168, 168, 168, 168, 168, 168, 168, 168, 168, 168, 168, 169, 169, 169, 169, 169, 169, 169, 169, 176, 176, 176, 176, 176, 176, 176, 176, 175, 175, 175, 175, 175, 175, 175, 175, 175, 175, 173, 173, 173, 173, 173, 167, 167, 167, 167, 167, 167, 167, 167, 167, 167, 167, 167, 167, 167, 167, 167, 167, 167, 167, 167, 167, 167, 167, 167, 167, 167, 167, 167, 167, 167, 167, 167, 167, 167, 167, 167, 167, 167, 167, 167, 167, 167, 167, 167, 167, 167, 167, 167, 167, 167, 167, 167, 167, 167, 167, 167, 167, 167, 178, 178, 178, 178, 178, 178, 178, 178, 178, 178, 178, 178, 178, 178, 178, 178, 178, 178, 178, 178, 178, 178, 178, 178, 178, 178, 178, 178, 178, 178, 178, 178, 178, 178, 178, 178, 178, 178, 178, 178, 178, 178, 178, 178, 178, 178, 178, 178, 178, 178, 178, 178, 178, 178, 178, 178, 178, 178, 178, 178, 178, 178, 178, 178, 178, 178, 178, 178, 178, 178, 178, 178, 178, 178, 178, 178, 178, 178, 178, 178, 178, 178, 178, 178, 178, 178, 178, 178, 178, 178, 178, 178, 178, 178, 178, 178, 178, 178, 178, 178, 178, 178, 178, 178, 178, 178, 178, 178, 178, 178, 178, 178, 178, 178, 178, 178, 178, 177, 177, 177]
def zSs : List Nat := [0, 35, 54, 55, 56, 53, 52, 59, 0, 29, 39, 40, 43, 47, 80, 64, 72, 66, 61, 58, 60, 62, 68, 74, 67, 65, 69, 70, 71, 73, 75, 76, 78, 77, 79, 89, 90, 91, 92, 95, 96, 0, 33, 34, 93, 94, 42, 0, 28, 0, 1, 3, 4, 5, 8, 7, 10, 26, 11, 14, 18, 16, 6, 9, 13, 12, 17, 19, 20, 21, 22, 23, 25, 0, 2, 27, 57, 45, 44, 24, 15, 0, 82, 83, 97, 98, 85, 99, 100, 0, 36, 48, 37, 38, 41, 49, 50, 86, 81, 0, 30, 31, 32, 46, 0, 657, 0, 665, 669, 933, 937, 949, 961, 966, 970, 979, 987, 1015, 1020, 1028, 1032, 1053, 1062, 1070, 1077, 1082, 1111, 1115, 1131, 1135, 1158, 1166, 1174, 1187, 1204, 1208, 1216, 1220, 1244, 1265, 1269, 1274, 1282, 1314, 1323, 1332, 1336, 1340, 1351, 1359, 51, 63, 84, 88, 87, 0, 0, 0, 0, 0, 0, 0, 0, 0, 1500, 1508, 142, 120, 119, 134, 126, 0, 0, 127, 145, 1512, 1516, 102, 101, 103, 108, 107, 106, 105, 110, 109, 1520, 113, 0, 112, 114, 115, 117, 116, 118, 111, 104, 1524, 122, 123, 121, 124, 125, 1630, 1659, 133, 130, 131, 132, 129, 128, 1667, 1680, 1708, 1716, 139, 138, 140, 141, 137, 136, 135, 1720, 1755, 1759, 1763, 144, 143, 1767, 1783, 1787, 1791, 1796, 146, 148, 147, 1804, 1820, 149, 1824, 1832, 150, 1836, 1849, 151, 1853, 153, 152, 1861, 155, 154, 156, 1873, 1890, 157, 1894, 1902, 158, 159, 1906, 160, 162, 161, 1922, 1938, 1942, 163, 1946, 165, 164, 0, 1954, 1975, 1980, 0, 0, 1984, 1988, 1995, 0, 0, 0]
/-- the words of a method: static or not, its class initialised, and by a receiver of its class selected -/
def zWok (mi : Nat) : Bool := decide (lw_tbl[zPs.getD mi 0]? = some (bif zST mi then Cond.static (zY mi) else Cond.instanceMethod (zY mi))) && decide (lw_tbl[zQs.getD mi 0]? = some (Cond.initialized (zY mi).cls)) && (zST mi || decide ((zY mi).name = "<init>") || decide (lw_tbl[zSs.getD mi 0]? = some (Cond.selects (zY mi).cls (zY mi) (zY mi)))) && decide (zCNm (zOC mi) = (zY mi).cls) && decide ((parseMethodDescriptor (zY mi).desc).map (fun d => d.parameters.length + (bif zST mi then 0 else 1)) = some (zNA mi)) && decide ((zY mi).cls ≠ "java/lang/invoke/MethodHandle" ∧ (zY mi).cls ≠ "java/lang/invoke/VarHandle") && plainName (zY mi).cls
set_option maxRecDepth 100000 in
theorem zW_0 : ∀ k, k < 60 → zWok (0 + k) = true := by decide +kernel
set_option maxRecDepth 100000 in
theorem zW_60 : ∀ k, k < 60 → zWok (60 + k) = true := by decide +kernel
set_option maxRecDepth 100000 in
theorem zW_120 : ∀ k, k < 60 → zWok (120 + k) = true := by decide +kernel
set_option maxRecDepth 100000 in
theorem zW_180 : ∀ k, k < 60 → zWok (180 + k) = true := by decide +kernel
set_option maxRecDepth 100000 in
theorem zW_240 : ∀ k, k < 42 → zWok (240 + k) = true := by decide +kernel
theorem zW_all (mi : Nat) (h : mi < 282) : zWok mi = true := by
  by_cases h0 : mi < 60
  · have := zW_0 (mi - 0) (by omega)
    rwa [show 0 + (mi - 0) = mi by omega] at this
  by_cases h60 : mi < 120
  · have := zW_60 (mi - 60) (by omega)
    rwa [show 60 + (mi - 60) = mi by omega] at this
  by_cases h120 : mi < 180
  · have := zW_120 (mi - 120) (by omega)
    rwa [show 120 + (mi - 120) = mi by omega] at this
  by_cases h180 : mi < 240
  · have := zW_180 (mi - 180) (by omega)
    rwa [show 180 + (mi - 180) = mi by omega] at this
  by_cases h240 : mi < 282
  · have := zW_240 (mi - 240) (by omega)
    rwa [show 240 + (mi - 240) = mi by omega] at this
  omega
theorem zc_all : ∀ mi, mi < 282 → Cond.code (zY mi) (zB mi) (zML mi) (zRet mi) ∈ lw_tbl := by
  intro mi h
  match mi, h with
  | 0, _ => exact zc_0
  | 1, _ => exact zc_1
  | 2, _ => exact zc_2
  | 3, _ => exact zc_3
  | 4, _ => exact zc_4
  | 5, _ => exact zc_5
  | 6, _ => exact zc_6
  | 7, _ => exact zc_7
  | 8, _ => exact zc_8
  | 9, _ => exact zc_9
  | 10, _ => exact zc_10
  | 11, _ => exact zc_11
  | 12, _ => exact zc_12
  | 13, _ => exact zc_13
  | 14, _ => exact zc_14
  | 15, _ => exact zc_15
  | 16, _ => exact zc_16
  | 17, _ => exact zc_17
  | 18, _ => exact zc_18
  | 19, _ => exact zc_19
  | 20, _ => exact zc_20
  | 21, _ => exact zc_21
  | 22, _ => exact zc_22
  | 23, _ => exact zc_23
  | 24, _ => exact zc_24
  | 25, _ => exact zc_25
  | 26, _ => exact zc_26
  | 27, _ => exact zc_27
  | 28, _ => exact zc_28
  | 29, _ => exact zc_29
  | 30, _ => exact zc_30
  | 31, _ => exact zc_31
  | 32, _ => exact zc_32
  | 33, _ => exact zc_33
  | 34, _ => exact zc_34
  | 35, _ => exact zc_35
  | 36, _ => exact zc_36
  | 37, _ => exact zc_37
  | 38, _ => exact zc_38
  | 39, _ => exact zc_39
  | 40, _ => exact zc_40
  | 41, _ => exact zc_41
  | 42, _ => exact zc_42
  | 43, _ => exact zc_43
  | 44, _ => exact zc_44
  | 45, _ => exact zc_45
  | 46, _ => exact zc_46
  | 47, _ => exact zc_47
  | 48, _ => exact zc_48
  | 49, _ => exact zc_49
  | 50, _ => exact zc_50
  | 51, _ => exact zc_51
  | 52, _ => exact zc_52
  | 53, _ => exact zc_53
  | 54, _ => exact zc_54
  | 55, _ => exact zc_55
  | 56, _ => exact zc_56
  | 57, _ => exact zc_57
  | 58, _ => exact zc_58
  | 59, _ => exact zc_59
  | 60, _ => exact zc_60
  | 61, _ => exact zc_61
  | 62, _ => exact zc_62
  | 63, _ => exact zc_63
  | 64, _ => exact zc_64
  | 65, _ => exact zc_65
  | 66, _ => exact zc_66
  | 67, _ => exact zc_67
  | 68, _ => exact zc_68
  | 69, _ => exact zc_69
  | 70, _ => exact zc_70
  | 71, _ => exact zc_71
  | 72, _ => exact zc_72
  | 73, _ => exact zc_73
  | 74, _ => exact zc_74
  | 75, _ => exact zc_75
  | 76, _ => exact zc_76
  | 77, _ => exact zc_77
  | 78, _ => exact zc_78
  | 79, _ => exact zc_79
  | 80, _ => exact zc_80
  | 81, _ => exact zc_81
  | 82, _ => exact zc_82
  | 83, _ => exact zc_83
  | 84, _ => exact zc_84
  | 85, _ => exact zc_85
  | 86, _ => exact zc_86
  | 87, _ => exact zc_87
  | 88, _ => exact zc_88
  | 89, _ => exact zc_89
  | 90, _ => exact zc_90
  | 91, _ => exact zc_91
  | 92, _ => exact zc_92
  | 93, _ => exact zc_93
  | 94, _ => exact zc_94
  | 95, _ => exact zc_95
  | 96, _ => exact zc_96
  | 97, _ => exact zc_97
  | 98, _ => exact zc_98
  | 99, _ => exact zc_99
  | 100, _ => exact zc_100
  | 101, _ => exact zc_101
  | 102, _ => exact zc_102
  | 103, _ => exact zc_103
  | 104, _ => exact zc_104
  | 105, _ => exact zc_105
  | 106, _ => exact zc_106
  | 107, _ => exact zc_107
  | 108, _ => exact zc_108
  | 109, _ => exact zc_109
  | 110, _ => exact zc_110
  | 111, _ => exact zc_111
  | 112, _ => exact zc_112
  | 113, _ => exact zc_113
  | 114, _ => exact zc_114
  | 115, _ => exact zc_115
  | 116, _ => exact zc_116
  | 117, _ => exact zc_117
  | 118, _ => exact zc_118
  | 119, _ => exact zc_119
  | 120, _ => exact zc_120
  | 121, _ => exact zc_121
  | 122, _ => exact zc_122
  | 123, _ => exact zc_123
  | 124, _ => exact zc_124
  | 125, _ => exact zc_125
  | 126, _ => exact zc_126
  | 127, _ => exact zc_127
  | 128, _ => exact zc_128
  | 129, _ => exact zc_129
  | 130, _ => exact zc_130
  | 131, _ => exact zc_131
  | 132, _ => exact zc_132
  | 133, _ => exact zc_133
  | 134, _ => exact zc_134
  | 135, _ => exact zc_135
  | 136, _ => exact zc_136
  | 137, _ => exact zc_137
  | 138, _ => exact zc_138
  | 139, _ => exact zc_139
  | 140, _ => exact zc_140
  | 141, _ => exact zc_141
  | 142, _ => exact zc_142
  | 143, _ => exact zc_143
  | 144, _ => exact zc_144
  | 145, _ => exact zc_145
  | 146, _ => exact zc_146
  | 147, _ => exact zc_147
  | 148, _ => exact zc_148
  | 149, _ => exact zc_149
  | 150, _ => exact zc_150
  | 151, _ => exact zc_151
  | 152, _ => exact zc_152
  | 153, _ => exact zc_153
  | 154, _ => exact zc_154
  | 155, _ => exact zc_155
  | 156, _ => exact zc_156
  | 157, _ => exact zc_157
  | 158, _ => exact zc_158
  | 159, _ => exact zc_159
  | 160, _ => exact zc_160
  | 161, _ => exact zc_161
  | 162, _ => exact zc_162
  | 163, _ => exact zc_163
  | 164, _ => exact zc_164
  | 165, _ => exact zc_165
  | 166, _ => exact zc_166
  | 167, _ => exact zc_167
  | 168, _ => exact zc_168
  | 169, _ => exact zc_169
  | 170, _ => exact zc_170
  | 171, _ => exact zc_171
  | 172, _ => exact zc_172
  | 173, _ => exact zc_173
  | 174, _ => exact zc_174
  | 175, _ => exact zc_175
  | 176, _ => exact zc_176
  | 177, _ => exact zc_177
  | 178, _ => exact zc_178
  | 179, _ => exact zc_179
  | 180, _ => exact zc_180
  | 181, _ => exact zc_181
  | 182, _ => exact zc_182
  | 183, _ => exact zc_183
  | 184, _ => exact zc_184
  | 185, _ => exact zc_185
  | 186, _ => exact zc_186
  | 187, _ => exact zc_187
  | 188, _ => exact zc_188
  | 189, _ => exact zc_189
  | 190, _ => exact zc_190
  | 191, _ => exact zc_191
  | 192, _ => exact zc_192
  | 193, _ => exact zc_193
  | 194, _ => exact zc_194
  | 195, _ => exact zc_195
  | 196, _ => exact zc_196
  | 197, _ => exact zc_197
  | 198, _ => exact zc_198
  | 199, _ => exact zc_199
  | 200, _ => exact zc_200
  | 201, _ => exact zc_201
  | 202, _ => exact zc_202
  | 203, _ => exact zc_203
  | 204, _ => exact zc_204
  | 205, _ => exact zc_205
  | 206, _ => exact zc_206
  | 207, _ => exact zc_207
  | 208, _ => exact zc_208
  | 209, _ => exact zc_209
  | 210, _ => exact zc_210
  | 211, _ => exact zc_211
  | 212, _ => exact zc_212
  | 213, _ => exact zc_213
  | 214, _ => exact zc_214
  | 215, _ => exact zc_215
  | 216, _ => exact zc_216
  | 217, _ => exact zc_217
  | 218, _ => exact zc_218
  | 219, _ => exact zc_219
  | 220, _ => exact zc_220
  | 221, _ => exact zc_221
  | 222, _ => exact zc_222
  | 223, _ => exact zc_223
  | 224, _ => exact zc_224
  | 225, _ => exact zc_225
  | 226, _ => exact zc_226
  | 227, _ => exact zc_227
  | 228, _ => exact zc_228
  | 229, _ => exact zc_229
  | 230, _ => exact zc_230
  | 231, _ => exact zc_231
  | 232, _ => exact zc_232
  | 233, _ => exact zc_233
  | 234, _ => exact zc_234
  | 235, _ => exact zc_235
  | 236, _ => exact zc_236
  | 237, _ => exact zc_237
  | 238, _ => exact zc_238
  | 239, _ => exact zc_239
  | 240, _ => exact zc_240
  | 241, _ => exact zc_241
  | 242, _ => exact zc_242
  | 243, _ => exact zc_243
  | 244, _ => exact zc_244
  | 245, _ => exact zc_245
  | 246, _ => exact zc_246
  | 247, _ => exact zc_247
  | 248, _ => exact zc_248
  | 249, _ => exact zc_249
  | 250, _ => exact zc_250
  | 251, _ => exact zc_251
  | 252, _ => exact zc_252
  | 253, _ => exact zc_253
  | 254, _ => exact zc_254
  | 255, _ => exact zc_255
  | 256, _ => exact zc_256
  | 257, _ => exact zc_257
  | 258, _ => exact zc_258
  | 259, _ => exact zc_259
  | 260, _ => exact zc_260
  | 261, _ => exact zc_261
  | 262, _ => exact zc_262
  | 263, _ => exact zc_263
  | 264, _ => exact zc_264
  | 265, _ => exact zc_265
  | 266, _ => exact zc_266
  | 267, _ => exact zc_267
  | 268, _ => exact zc_268
  | 269, _ => exact zc_269
  | 270, _ => exact zc_270
  | 271, _ => exact zc_271
  | 272, _ => exact zc_272
  | 273, _ => exact zc_273
  | 274, _ => exact zc_274
  | 275, _ => exact zc_275
  | 276, _ => exact zc_276
  | 277, _ => exact zc_277
  | 278, _ => exact zc_278
  | 279, _ => exact zc_279
  | 280, _ => exact zc_280
  | 281, _ => exact zc_281
  | n + 282, h => exact absurd h (by omega)
