/-! ===== THE MACHINE FOLLOWS THE LITTLE MACHINE, part 4: the pool, checked by program ===== -/
theorem j_mem {w : Jvm.Cond} (p : Nat) (h : (decide (lw_tbl[p]? = some w) && goodWord w) = true) : w ∈ j_ws := by
  simp only [Bool.and_eq_true, decide_eq_true_eq] at h
  exact List.mem_filter.mpr ⟨List.mem_of_getElem? h.1, h.2⟩
theorem m_hasN {p : Nat} {w : Jvm.Cond} (h : (decide (lw_tbl[p]? = some w) && j_isN w) = true) : w ∈ lw_tbl := by
  simp only [Bool.and_eq_true, decide_eq_true_eq] at h
  exact List.mem_of_getElem? h.1
def j_hasN (p : Nat) (w : Jvm.Cond) : Bool := decide (lw_tbl[p]? = some w) && j_isN w
def j_has (p : Nat) (w : Jvm.Cond) : Bool := decide (lw_tbl[p]? = some w) && goodWord w
abbrev mN (k : Nat) : MethodName := j_mN.getD k Lib.objectInit
abbrev mB (k : Nat) : ByteArray := j_mB.getD k ⟨#[]⟩
abbrev mL (k : Nat) : Nat := j_mL.getD k 0
abbrev mRt (k : Nat) : Option FieldType := j_mR.getD k none
/-- fields: whose pool, its number, class, place; where the word stands -/
def j_fls : List (Nat × Nat × Nat × Nat × Nat) := [(4, 9, 4, 0, 115), (6, 85, 4, 0, 116), (4, 15, 4, 1, 117), (6, 96, 4, 1, 118), (1, 11, 1, 0, 137), (2, 69, 1, 0, 138), (6, 139, 1, 0, 139), (0, 62, 1, 0, 140), (1, 15, 1, 1, 141), (0, 97, 1, 1, 142), (1, 18, 1, 2, 143), (0, 100, 1, 2, 144), (1, 21, 1, 3, 145), (2, 81, 1, 3, 146), (1, 25, 1, 4, 147), (2, 84, 1, 4, 148), (1, 28, 1, 5, 149), (2, 61, 1, 5, 150), (6, 182, 1, 5, 151), (0, 9, 0, 0, 171), (6, 289, 0, 0, 172), (0, 15, 0, 1, 173), (6, 199, 0, 1, 174), (0, 18, 0, 2, 175), (6, 253, 0, 2, 176), (0, 34, 0, 3, 177), (6, 133, 0, 3, 178), (0, 21, 0, 4, 179), (6, 172, 0, 4, 180), (0, 25, 0, 5, 181), (6, 169, 0, 5, 182), (0, 28, 0, 6, 183), (6, 322, 0, 6, 184), (0, 31, 0, 7, 185), (6, 325, 0, 7, 186), (0, 37, 0, 8, 187), (6, 157, 0, 8, 188), (0, 40, 0, 9, 189), (2, 12, 2, 0, 211), (6, 121, 2, 0, 212), (2, 21, 2, 1, 213), (6, 126, 2, 1, 214), (2, 25, 2, 2, 215), (2, 29, 2, 3, 216), (2, 33, 2, 4, 217), (3, 12, 3, 0, 242), (3, 18, 3, 1, 243), (3, 22, 3, 2, 244), (3, 48, 3, 3, 245), (3, 51, 3, 4, 246), (6, 229, 3, 4, 247), (3, 40, 3, 5, 248), (6, 231, 3, 5, 249), (3, 54, 3, 6, 250), (6, 222, 3, 6, 251), (3, 57, 3, 7, 252), (6, 286, 3, 7, 253), (3, 60, 3, 8, 254), (6, 283, 3, 8, 255), (5, 12, 5, 0, 284), (5, 28, 5, 1, 285), (5, 36, 5, 2, 286), (5, 53, 5, 3, 287), (6, 275, 5, 3, 288), (6, 14, 6, 0, 298), (6, 20, 6, 1, 299), (6, 26, 6, 2, 300), (6, 33, 6, 3, 301), (6, 40, 6, 4, 302), (6, 44, 6, 5, 303), (6, 48, 6, 6, 304), (6, 51, 6, 7, 305), (6, 58, 6, 8, 306), (6, 65, 6, 9, 307), (6, 69, 6, 10, 308), (6, 130, 6, 11, 309), (6, 312, 6, 12, 310), (6, 88, 6, 13, 311), (6, 298, 6, 14, 312), (6, 73, 6, 15, 313), (7, 69, 7, 0, 881), (7, 7, 7, 1, 882), (7, 77, 7, 2, 883), (7, 80, 7, 3, 884), (7, 61, 7, 4, 885), (7, 13, 7, 5, 886), (7, 16, 7, 6, 887), (7, 19, 7, 7, 888), (7, 22, 7, 8, 889), (7, 25, 7, 9, 890), (7, 143, 7, 10, 891), (7, 146, 7, 11, 892), (7, 29, 7, 12, 893), (7, 149, 7, 13, 894), (7, 32, 7, 14, 895), (7, 101, 7, 15, 896), (7, 107, 7, 16, 897), (7, 113, 7, 17, 898), (7, 116, 7, 18, 899), (7, 122, 7, 19, 900), (7, 128, 7, 20, 901), (7, 35, 7, 21, 902), (7, 38, 7, 22, 903), (7, 41, 7, 23, 904), (7, 44, 7, 24, 905), (7, 47, 7, 25, 906), (7, 194, 7, 26, 907), (7, 201, 7, 27, 908), (7, 51, 7, 28, 909), (7, 225, 7, 29, 910), (7, 219, 7, 30, 911), (7, 54, 7, 31, 912), (7, 258, 7, 32, 913), (7, 261, 7, 33, 914), (7, 264, 7, 34, 915), (7, 267, 7, 35, 916), (7, 270, 7, 36, 917), (7, 58, 7, 37, 918), (7, 337, 7, 38, 919)]
def j_flB (e : Nat × Nat × Nat × Nat × Nat) : Bool := j_has e.2.2.2.2 (.fieldLink (j_CN e.1) e.2.1 (j_T e.2.2.1 e.2.2.2.1).1 (j_T e.2.2.1 e.2.2.2.1).2.1 (j_T e.2.2.1 e.2.2.2.1).2.2.1)
set_option maxRecDepth 1000000 in
theorem j_fls_ok : j_fls.all j_flB = true := by decide +kernel
/-- methods: whose pool, its number, method, how it is called; where the words stand -/
def j_lk0 : List (Nat × Nat × Nat × Nat × Nat × Nat × Nat) := [(0, 3, 0, 9, 170, 0, 0), (0, 43, 235, 1, 738, 113, 0), (0, 49, 10, 0, 523, 524, 525), (0, 53, 11, 0, 527, 529, 11), (0, 56, 37, 0, 645, 540, 541), (0, 65, 20, 1, 625, 626, 0), (0, 71, 5, 0, 573, 508, 509), (0, 74, 38, 0, 574, 575, 576), (0, 77, 22, 0, 582, 584, 14), (0, 81, 23, 0, 586, 588, 15), (0, 85, 24, 0, 590, 592, 16), (0, 89, 27, 0, 602, 604, 17), (0, 93, 21, 0, 606, 547, 548), (0, 103, 0, 6, 607, 0, 0), (0, 108, 26, 0, 616, 599, 600), (0, 112, 25, 0, 702, 570, 571), (0, 116, 28, 0, 703, 613, 614), (0, 120, 31, 1, 747, 748, 0), (1, 3, 0, 9, 136, 0, 0), (1, 31, 33, 0, 480, 434, 435)]
def j_lk1 : List (Nat × Nat × Nat × Nat × Nat × Nat × Nat) := [(1, 35, 0, 8, 481, 0, 0), (1, 41, 0, 6, 543, 0, 0), (1, 53, 36, 0, 762, 461, 462), (1, 57, 41, 0, 763, 765, 24), (1, 61, 38, 0, 767, 575, 576), (2, 3, 0, 9, 130, 0, 0), (2, 11, 32, 3, 133, 134, 0), (2, 20, 0, 3, 167, 168, 0), (2, 36, 44, 0, 417, 419, 4), (2, 40, 45, 0, 437, 439, 8), (2, 43, 46, 0, 446, 448, 9), (2, 46, 48, 0, 421, 423, 5), (2, 49, 49, 0, 425, 427, 6), (2, 53, 50, 0, 429, 431, 7), (2, 57, 33, 0, 433, 434, 435), (2, 65, 125, 4, 443, 444, 0), (2, 72, 1, 0, 450, 451, 452), (2, 75, 47, 0, 454, 456, 10), (2, 87, 36, 0, 460, 461, 462), (2, 91, 7, 0, 464, 465, 466)]
def j_lk2 : List (Nat × Nat × Nat × Nat × Nat × Nat × Nat) := [(2, 94, 2, 0, 468, 469, 470), (3, 3, 0, 9, 239, 0, 0), (3, 11, 0, 3, 241, 168, 0), (3, 26, 0, 8, 811, 0, 0), (3, 32, 56, 0, 674, 676, 20), (3, 36, 57, 1, 679, 680, 0), (3, 44, 3, 0, 678, 483, 484), (3, 63, 58, 0, 682, 684, 21), (3, 67, 13, 0, 694, 695, 696), (3, 71, 29, 0, 698, 699, 700), (3, 75, 17, 0, 686, 687, 688), (3, 79, 18, 0, 690, 691, 692), (4, 3, 0, 9, 111, 0, 0), (4, 19, 235, 1, 112, 113, 0), (5, 3, 0, 9, 281, 0, 0), (5, 11, 0, 3, 283, 168, 0), (5, 18, 3, 0, 781, 483, 484), (5, 22, 0, 7, 782, 0, 0), (5, 32, 14, 0, 785, 634, 635), (5, 39, 66, 0, 786, 788, 25)]
def j_lk3 : List (Nat × Nat × Nat × Nat × Nat × Nat × Nat) := [(5, 43, 13, 0, 790, 695, 696), (5, 46, 29, 0, 791, 699, 700), (5, 50, 67, 0, 792, 794, 26), (5, 56, 38, 0, 796, 575, 576), (5, 61, 36, 0, 797, 461, 462), (5, 65, 7, 0, 798, 465, 466), (6, 1, 0, 9, 101, 0, 0), (6, 11, 59, 2, 108, 109, 0), (6, 25, 42, 3, 127, 128, 0), (6, 32, 32, 3, 230, 134, 0), (6, 39, 0, 3, 232, 168, 0), (6, 57, 51, 3, 236, 237, 0), (6, 64, 64, 3, 278, 279, 0), (6, 77, 113, 0, 351, 353, 0), (6, 81, 115, 0, 371, 373, 2), (6, 92, 114, 0, 375, 377, 3), (6, 99, 60, 0, 355, 356, 357), (6, 103, 112, 0, 359, 361, 1), (6, 107, 117, 1, 391, 392, 0), (6, 111, 0, 8, 394, 0, 0)]
def j_lk4 : List (Nat × Nat × Nat × Nat × Nat × Nat × Nat) := [(6, 117, 43, 0, 413, 414, 415), (6, 122, 34, 0, 476, 477, 478), (6, 127, 3, 0, 482, 483, 484), (6, 135, 35, 0, 490, 491, 492), (6, 136, 8, 0, 494, 495, 496), (6, 142, 7, 0, 502, 465, 466), (6, 145, 5, 0, 507, 508, 509), (6, 146, 12, 0, 511, 512, 513), (6, 150, 9, 0, 519, 520, 521), (6, 154, 121, 0, 531, 533, 12), (6, 160, 21, 0, 546, 547, 548), (6, 163, 39, 0, 550, 551, 552), (6, 166, 122, 0, 554, 556, 13), (6, 175, 118, 1, 566, 567, 0), (6, 178, 25, 0, 569, 570, 571), (6, 183, 26, 0, 598, 599, 600), (6, 187, 28, 0, 612, 613, 614), (6, 191, 19, 0, 621, 622, 623), (6, 195, 61, 0, 363, 364, 365), (6, 202, 14, 0, 633, 634, 635)]
def j_lk5 : List (Nat × Nat × Nat × Nat × Nat × Nat × Nat) := [(6, 206, 16, 0, 641, 642, 643), (6, 209, 119, 0, 650, 652, 18), (6, 212, 120, 0, 658, 660, 19), (6, 215, 52, 0, 666, 667, 668), (6, 218, 54, 0, 670, 671, 672), (6, 225, 55, 0, 708, 709, 710), (6, 234, 124, 0, 712, 714, 22), (6, 238, 13, 0, 720, 695, 696), (6, 241, 123, 0, 721, 723, 23), (6, 244, 6, 0, 535, 536, 537), (6, 247, 37, 0, 539, 540, 541), (6, 250, 4, 0, 734, 735, 736), (6, 256, 30, 0, 743, 744, 745), (6, 260, 29, 0, 725, 699, 700), (6, 264, 40, 0, 758, 759, 760), (6, 268, 36, 0, 776, 461, 462), (6, 271, 65, 0, 777, 778, 779), (6, 276, 116, 0, 803, 805, 27), (6, 279, 53, 0, 807, 808, 809), (6, 292, 235, 1, 820, 113, 0)]
def j_lk6 : List (Nat × Nat × Nat × Nat × Nat × Nat × Nat) := [(6, 301, 15, 0, 837, 838, 839), (6, 304, 234, 1, 841, 842, 0), (6, 309, 62, 0, 847, 848, 849), (6, 319, 108, 0, 865, 834, 835), (6, 328, 63, 0, 866, 867, 868), (7, 1, 0, 9, 876, 0, 0), (7, 65, 163, 0, 877, 879, 28), (7, 73, 127, 1, 1009, 1010, 0), (7, 83, 139, 1, 1028, 1029, 0), (7, 87, 131, 0, 1031, 1033, 29), (7, 91, 140, 0, 1039, 1041, 30), (7, 95, 134, 0, 1043, 1045, 31), (7, 98, 147, 1, 1067, 1068, 0), (7, 104, 150, 0, 1082, 1084, 33), (7, 110, 153, 0, 1090, 1092, 35), (7, 119, 151, 1, 1098, 1099, 0), (7, 125, 152, 1, 1105, 1106, 0), (7, 131, 154, 0, 1086, 1088, 34), (7, 134, 155, 0, 1094, 1096, 36), (7, 137, 156, 0, 1101, 1103, 37)]
def j_lk7 : List (Nat × Nat × Nat × Nat × Nat × Nat × Nat) := [(7, 140, 157, 0, 1078, 1080, 32), (7, 152, 162, 0, 1124, 1126, 40), (7, 155, 165, 0, 1156, 1158, 45), (7, 159, 130, 1, 1164, 1165, 0), (7, 162, 160, 0, 1116, 1118, 38), (7, 165, 167, 0, 1120, 1122, 39), (7, 169, 161, 0, 1136, 1138, 41), (7, 172, 171, 0, 1140, 1142, 42), (7, 175, 168, 0, 1160, 1162, 46), (7, 178, 173, 0, 1148, 1150, 43), (7, 181, 174, 0, 1152, 1154, 44), (7, 184, 175, 0, 1167, 1169, 47), (7, 187, 177, 0, 1171, 1173, 48), (7, 191, 176, 0, 1175, 1177, 49), (7, 198, 180, 0, 1199, 1201, 53), (7, 204, 184, 1, 1219, 1220, 0), (7, 207, 181, 0, 1191, 1193, 51), (7, 210, 182, 0, 1195, 1197, 52), (7, 213, 185, 0, 1215, 1217, 56), (7, 216, 183, 0, 1203, 1205, 54)]
def j_lk8 : List (Nat × Nat × Nat × Nat × Nat × Nat × Nat) := [(7, 222, 186, 0, 1211, 1213, 55), (7, 228, 188, 0, 1187, 1189, 50), (7, 231, 187, 0, 1226, 1228, 57), (7, 238, 164, 0, 1234, 1236, 58), (7, 242, 193, 0, 1238, 1240, 59), (7, 246, 166, 0, 1248, 1250, 60), (7, 249, 196, 0, 1256, 1258, 61), (7, 252, 189, 0, 1300, 1302, 69), (7, 255, 200, 0, 1288, 1290, 66), (7, 273, 206, 0, 1280, 1282, 64), (7, 277, 201, 0, 1292, 1294, 67), (7, 280, 202, 0, 1296, 1298, 68), (7, 283, 205, 0, 1304, 1306, 70), (7, 286, 203, 0, 1284, 1286, 65), (7, 289, 204, 0, 1276, 1278, 63), (7, 292, 207, 0, 1272, 1274, 62), (7, 295, 136, 0, 1312, 1314, 71), (7, 299, 212, 0, 1328, 1330, 72), (7, 302, 129, 1, 1332, 1333, 0), (7, 305, 128, 1, 1351, 1352, 0)]
def j_lk9 : List (Nat × Nat × Nat × Nat × Nat × Nat × Nat) := [(7, 308, 216, 0, 1354, 1356, 74), (7, 312, 217, 0, 1347, 1349, 73), (7, 316, 220, 0, 1370, 1372, 76), (7, 319, 222, 0, 1374, 1376, 77), (7, 322, 223, 0, 1378, 1380, 78), (7, 325, 221, 0, 1366, 1368, 75), (7, 329, 225, 0, 1386, 1388, 79), (7, 332, 229, 0, 1402, 1404, 80), (7, 340, 231, 0, 1411, 1413, 81), (7, 348, 232, 0, 1416, 1418, 82), (8, 9, 68, 2, 98, 99, 0), (8, 12, 126, 2, 873, 874, 0), (8, 13, 69, 0, 347, 348, 349), (8, 17, 141, 0, 1024, 1025, 1026), (8, 18, 70, 0, 367, 368, 369), (8, 22, 142, 0, 1035, 1036, 1037), (8, 23, 71, 0, 379, 380, 381), (8, 26, 143, 0, 1047, 1048, 1049), (8, 27, 72, 0, 383, 384, 385), (8, 31, 144, 0, 1051, 1052, 1053)]
def j_lk10 : List (Nat × Nat × Nat × Nat × Nat × Nat × Nat) := [(8, 32, 73, 0, 387, 388, 389), (8, 36, 145, 0, 1055, 1056, 1057), (8, 37, 74, 0, 397, 398, 399), (8, 40, 146, 0, 1059, 1060, 1061), (8, 41, 75, 0, 401, 402, 403), (8, 44, 148, 0, 1063, 1064, 1065), (8, 45, 76, 0, 405, 406, 407), (8, 48, 149, 0, 1070, 1071, 1072), (8, 49, 77, 0, 409, 410, 411), (8, 52, 158, 0, 1074, 1075, 1076), (8, 53, 78, 0, 472, 473, 474), (8, 56, 159, 0, 1108, 1109, 1110), (8, 57, 79, 0, 486, 487, 488), (8, 60, 169, 0, 1112, 1113, 1114), (8, 61, 80, 0, 498, 499, 500), (8, 64, 170, 0, 1128, 1129, 1130), (8, 65, 81, 0, 503, 504, 505), (8, 68, 172, 0, 1132, 1133, 1134), (8, 69, 82, 0, 515, 516, 517), (8, 72, 178, 0, 1144, 1145, 1146)]
def j_lk11 : List (Nat × Nat × Nat × Nat × Nat × Nat × Nat) := [(8, 73, 83, 0, 558, 559, 560), (8, 77, 179, 0, 1179, 1180, 1181), (8, 78, 84, 0, 562, 563, 564), (8, 81, 190, 0, 1183, 1184, 1185), (8, 82, 85, 0, 594, 595, 596), (8, 85, 191, 0, 1207, 1208, 1209), (8, 86, 86, 0, 608, 609, 610), (8, 89, 192, 0, 1222, 1223, 1224), (8, 90, 87, 0, 617, 618, 619), (8, 93, 194, 0, 1230, 1231, 1232), (8, 94, 88, 0, 629, 630, 631), (8, 97, 195, 0, 1244, 1245, 1246), (8, 98, 89, 0, 637, 638, 639), (8, 101, 197, 0, 1252, 1253, 1254), (8, 102, 90, 0, 646, 647, 648), (8, 105, 198, 0, 1260, 1261, 1262), (8, 106, 91, 0, 654, 655, 656), (8, 109, 199, 0, 1264, 1265, 1266), (8, 110, 92, 0, 662, 663, 664), (8, 113, 208, 0, 1268, 1269, 1270)]
def j_lk12 : List (Nat × Nat × Nat × Nat × Nat × Nat × Nat) := [(8, 114, 93, 0, 704, 705, 706), (8, 117, 209, 0, 1308, 1309, 1310), (8, 118, 94, 0, 716, 717, 718), (8, 121, 210, 0, 1316, 1317, 1318), (8, 122, 95, 0, 726, 727, 728), (8, 125, 211, 0, 1320, 1321, 1322), (8, 126, 96, 0, 730, 731, 732), (8, 129, 213, 0, 1324, 1325, 1326), (8, 130, 97, 0, 739, 740, 741), (8, 133, 214, 0, 1335, 1336, 1337), (8, 134, 98, 0, 750, 751, 752), (8, 137, 215, 0, 1339, 1340, 1341), (8, 138, 99, 0, 754, 755, 756), (8, 141, 218, 0, 1343, 1344, 1345), (8, 142, 100, 0, 768, 769, 770), (8, 145, 219, 0, 1358, 1359, 1360), (8, 146, 101, 0, 772, 773, 774), (8, 149, 224, 0, 1362, 1363, 1364), (8, 150, 102, 0, 799, 800, 801), (8, 153, 226, 0, 1382, 1383, 1384)]
def j_lk13 : List (Nat × Nat × Nat × Nat × Nat × Nat × Nat) := [(8, 154, 103, 0, 812, 813, 814), (8, 157, 227, 0, 1390, 1391, 1392), (8, 158, 104, 0, 816, 817, 818), (8, 161, 228, 0, 1394, 1395, 1396), (8, 162, 105, 0, 821, 822, 823), (8, 165, 135, 0, 1012, 1013, 1014), (8, 166, 106, 0, 825, 826, 827), (8, 170, 137, 0, 1016, 1017, 1018), (8, 171, 107, 0, 829, 830, 831), (8, 174, 138, 0, 1020, 1021, 1022), (8, 175, 108, 0, 833, 834, 835), (8, 178, 230, 0, 1398, 1399, 1400), (8, 179, 109, 0, 851, 852, 853), (8, 182, 132, 0, 1001, 1002, 1003), (8, 183, 110, 0, 855, 856, 857), (8, 186, 133, 0, 1005, 1006, 1007), (8, 187, 111, 0, 859, 860, 861), (8, 190, 233, 0, 1406, 1407, 1408)]
def j_lks : List (Nat × Nat × Nat × Nat × Nat × Nat × Nat) := j_lk0 ++ (j_lk1 ++ (j_lk2 ++ (j_lk3 ++ (j_lk4 ++ (j_lk5 ++ (j_lk6 ++ (j_lk7 ++ (j_lk8 ++ (j_lk9 ++ (j_lk10 ++ (j_lk11 ++ (j_lk12 ++ (j_lk13)))))))))))))
def j_lkB (e : Nat × Nat × Nat × Nat × Nat × Nat × Nat) : Bool := match e with
  | (own, idx, k, 0, p, a, b) => j_has p (.methodLink (j_CN own) idx (mN k)) && j_has a (.instanceMethod (mN k)) && j_has b (.selects (mN k).cls (mN k) (mN k))
  | (own, idx, k, 1, p, a, _) => j_has p (.methodLink (j_CN own) idx (mN k)) && j_has a (.static (mN k))
  | (own, idx, k, 2, p, a, _) => j_has p (.methodLink (j_CN own) idx (mN k)) && j_has a (.instanceMethod (mN k)) && decide ((mN k).name = "<init>")
  | (own, idx, k, 3, p, a, _) => j_hasN p (.methodLinkNest (j_CN own) idx (mN k) "LastStirred") && j_has a (.instanceMethod (mN k)) && decide ((mN k).name = "<init>")
  | (own, idx, k, 4, p, a, _) => j_hasN p (.methodLinkNest (j_CN own) idx (mN k) "LastStirred") && j_has a (.static (mN k))
  | (own, idx, _, 6, p, _, _) => j_has p (.methodLink (j_CN own) idx Lib.Math.abs.name)
  | (own, idx, _, 7, p, _, _) => j_has p (.methodLink (j_CN own) idx Lib.Math.min.name)
  | (own, idx, _, 8, p, _, _) => j_has p (.methodLink (j_CN own) idx arraycopyName)
  | (own, idx, _, 9, p, _, _) => j_has p (.methodLink (j_CN own) idx Lib.objectInit)
  | _ => false
set_option maxRecDepth 1000000 in
theorem j_lkok0 : j_lk0.all j_lkB = true := by decide +kernel
set_option maxRecDepth 1000000 in
theorem j_lkok1 : j_lk1.all j_lkB = true := by decide +kernel
set_option maxRecDepth 1000000 in
theorem j_lkok2 : j_lk2.all j_lkB = true := by decide +kernel
set_option maxRecDepth 1000000 in
theorem j_lkok3 : j_lk3.all j_lkB = true := by decide +kernel
set_option maxRecDepth 1000000 in
theorem j_lkok4 : j_lk4.all j_lkB = true := by decide +kernel
set_option maxRecDepth 1000000 in
theorem j_lkok5 : j_lk5.all j_lkB = true := by decide +kernel
set_option maxRecDepth 1000000 in
theorem j_lkok6 : j_lk6.all j_lkB = true := by decide +kernel
set_option maxRecDepth 1000000 in
theorem j_lkok7 : j_lk7.all j_lkB = true := by decide +kernel
set_option maxRecDepth 1000000 in
theorem j_lkok8 : j_lk8.all j_lkB = true := by decide +kernel
set_option maxRecDepth 1000000 in
theorem j_lkok9 : j_lk9.all j_lkB = true := by decide +kernel
set_option maxRecDepth 1000000 in
theorem j_lkok10 : j_lk10.all j_lkB = true := by decide +kernel
set_option maxRecDepth 1000000 in
theorem j_lkok11 : j_lk11.all j_lkB = true := by decide +kernel
set_option maxRecDepth 1000000 in
theorem j_lkok12 : j_lk12.all j_lkB = true := by decide +kernel
set_option maxRecDepth 1000000 in
theorem j_lkok13 : j_lk13.all j_lkB = true := by decide +kernel
theorem j_lks_ok : j_lks.all j_lkB = true := by unfold j_lks; simp only [List.all_append, j_lkok0, j_lkok1, j_lkok2, j_lkok3, j_lkok4, j_lkok5, j_lkok6, j_lkok7, j_lkok8, j_lkok9, j_lkok10, j_lkok11, j_lkok12, j_lkok13, Bool.and_self]
/-- methods: where the words of their code, of their class stand -/
def j_mps : List (Nat × Nat) := [(169, 89), (453, 89), (471, 89), (485, 89), (737, 89), (510, 89), (538, 89), (467, 89), (497, 89), (522, 89), (526, 89), (530, 89), (514, 89), (697, 89), (636, 89), (840, 89), (644, 89), (689, 89), (693, 89), (624, 89), (627, 89), (549, 89), (585, 89), (589, 89), (593, 89), (572, 89), (601, 89), (605, 89), (615, 89), (701, 89), (746, 89), (749, 89), (135, 88), (436, 88), (479, 88), (493, 88), (463, 88), (542, 88), (577, 88), (553, 88), (761, 88), (766, 88), (129, 87), (416, 87), (420, 87), (440, 87), (449, 87), (457, 87), (424, 87), (428, 87), (432, 87), (238, 90), (669, 90), (810, 90), (673, 90), (711, 90), (677, 90), (681, 90), (685, 90), (110, 85), (358, 85), (366, 85), (850, 85), (869, 85), (280, 91), (780, 91), (789, 91), (795, 91), (100, 84), (350, 84), (370, 84), (382, 84), (386, 84), (390, 84), (400, 84), (404, 84), (408, 84), (412, 84), (475, 84), (489, 84), (501, 84), (506, 84), (518, 84), (561, 84), (565, 84), (597, 84), (611, 84), (620, 84), (632, 84), (640, 84), (649, 84), (657, 84), (665, 84), (707, 84), (719, 84), (729, 84), (733, 84), (742, 84), (753, 84), (757, 84), (771, 84), (775, 84), (802, 84), (815, 84), (819, 84), (824, 84), (828, 84), (832, 84), (836, 84), (854, 84), (858, 84), (862, 84), (362, 84), (354, 84), (378, 84), (374, 84), (806, 84), (393, 84), (568, 84), (653, 84), (661, 84), (534, 84), (557, 84), (724, 84), (715, 84), (445, 84), (875, 92), (1011, 92), (1353, 92), (1334, 92), (1166, 92), (1034, 92), (1004, 92), (1008, 92), (1046, 92), (1015, 92), (1315, 92), (1019, 92), (1023, 92), (1030, 92), (1042, 92), (1027, 92), (1038, 92), (1050, 92), (1054, 92), (1058, 92), (1062, 92), (1069, 92), (1066, 92), (1073, 92), (1085, 92), (1100, 92), (1107, 92), (1093, 92), (1089, 92), (1097, 92), (1104, 92), (1081, 92), (1077, 92), (1111, 92), (1119, 92), (1139, 92), (1127, 92), (880, 92), (1237, 92), (1159, 92), (1251, 92), (1123, 92), (1163, 92), (1115, 92), (1131, 92), (1143, 92), (1135, 92), (1151, 92), (1155, 92), (1170, 92), (1178, 92), (1174, 92), (1147, 92), (1182, 92), (1202, 92), (1194, 92), (1198, 92), (1206, 92), (1221, 92), (1218, 92), (1214, 92), (1229, 92), (1190, 92), (1303, 92), (1186, 92), (1210, 92), (1225, 92), (1241, 92), (1233, 92), (1247, 92), (1259, 92), (1255, 92), (1263, 92), (1267, 92), (1291, 92), (1295, 92), (1299, 92), (1287, 92), (1279, 92), (1307, 92), (1283, 92), (1275, 92), (1271, 92), (1311, 92), (1319, 92), (1323, 92), (1331, 92), (1327, 92), (1338, 92), (1342, 92), (1357, 92), (1350, 92), (1346, 92), (1361, 92), (1373, 92), (1369, 92), (1377, 92), (1381, 92), (1365, 92), (1389, 92), (1385, 92), (1393, 92), (1397, 92), (1405, 92), (1401, 92), (1414, 92), (1419, 92), (1409, 92), (843, 95), (114, 86)]
def j_mB1 (k : Nat) : Bool := j_has (j_mps.getD k (0, 0)).2 (.initialized (mN k).cls) && decide ((mN k).cls ≠ "java/lang/invoke/MethodHandle") && decide ((mN k).cls ≠ "java/lang/invoke/VarHandle") && plainName (mN k).cls && decide (mL k ≤ 20)
set_option maxRecDepth 1000000 in
theorem j_mps_ok : (List.range 236).all j_mB1 = true := by decide +kernel
theorem j_u0 : ∀ w ∈ u_ws (j_CN 0) (j_T 0) (j_nf 0), w ∈ j_ws := by decide +kernel
theorem j_u1 : ∀ w ∈ u_ws (j_CN 1) (j_T 1) (j_nf 1), w ∈ j_ws := by decide +kernel
theorem j_u2 : ∀ w ∈ u_ws (j_CN 2) (j_T 2) (j_nf 2), w ∈ j_ws := by decide +kernel
theorem j_u3 : ∀ w ∈ u_ws (j_CN 3) (j_T 3) (j_nf 3), w ∈ j_ws := by decide +kernel
theorem j_u4 : ∀ w ∈ u_ws (j_CN 4) (j_T 4) (j_nf 4), w ∈ j_ws := by decide +kernel
theorem j_u5 : ∀ w ∈ u_ws (j_CN 5) (j_T 5) (j_nf 5), w ∈ j_ws := by decide +kernel
set_option maxRecDepth 1000000 in
theorem j_u6 : ∀ w ∈ u_ws (j_CN 6) (j_T 6) (j_nf 6), w ∈ j_ws := by decide +kernel
set_option maxRecDepth 1000000 in
theorem j_u7 : ∀ w ∈ u_ws (j_CN 7) (j_T 7) (j_nf 7), w ∈ j_ws := by decide +kernel
theorem j_us {c : Nat} (hc : c < 8) : ∀ w ∈ u_ws (j_CN c) (j_T c) (j_nf c), w ∈ j_ws := m_c8 (P := fun c => ∀ w ∈ u_ws (j_CN c) (j_T c) (j_nf c), w ∈ j_ws) j_u0 j_u1 j_u2 j_u3 j_u4 j_u5 j_u6 j_u7 hc
theorem j_cat_ok {c : Nat} (hc : c < 8) : Jvm.Cond.instantiable (j_CN c) (j_nf c) ∈ j_ws ∧ Jvm.Cond.initialized (j_CN c) ∈ j_ws := m_c8 (P := fun c => Jvm.Cond.instantiable (j_CN c) (j_nf c) ∈ j_ws ∧ Jvm.Cond.initialized (j_CN c) ∈ j_ws) ⟨j_mem 166 (by decide +kernel), j_mem 89 (by decide +kernel)⟩ ⟨j_mem 132 (by decide +kernel), j_mem 88 (by decide +kernel)⟩ ⟨j_mem 126 (by decide +kernel), j_mem 87 (by decide +kernel)⟩ ⟨j_mem 235 (by decide +kernel), j_mem 90 (by decide +kernel)⟩ ⟨j_mem 105 (by decide +kernel), j_mem 85 (by decide +kernel)⟩ ⟨j_mem 277 (by decide +kernel), j_mem 91 (by decide +kernel)⟩ ⟨j_mem 97 (by decide +kernel), j_mem 84 (by decide +kernel)⟩ ⟨j_mem 872 (by decide +kernel), j_mem 92 (by decide +kernel)⟩ hc
theorem j_ca_int : Jvm.Cond.arrayClass .int ∈ j_ws := j_mem 124 (by decide +kernel)
theorem j_ca_byte : Jvm.Cond.arrayClass .byte ∈ j_ws := j_mem 999 (by decide +kernel)
theorem j_ca_bool : Jvm.Cond.arrayClass .boolean ∈ j_ws := j_mem 1000 (by decide +kernel)
theorem j_ca_long : Jvm.Cond.arrayClass .long ∈ j_ws := j_mem 275 (by decide +kernel)
theorem j_ao_obj : Jvm.Cond.arrayOver (.object RX0) ∈ lw_tbl := m_hasN (p := 233) (by decide +kernel)
theorem j_ao_arr : Jvm.Cond.arrayOver (.array .int) ∈ lw_tbl := m_hasN (p := 107) (by decide +kernel)
theorem j_w_nat : Jvm.Cond.native arraycopyName ∈ j_ws := j_mem 396 (by decide +kernel)
theorem j_w_sta : Jvm.Cond.static arraycopyName ∈ j_ws := j_mem 395 (by decide +kernel)
theorem j_w_ini : Jvm.Cond.initialized "java/lang/System" ∈ j_ws := j_mem 93 (by decide +kernel)
theorem j_w_oi : Jvm.Cond.instanceMethod Lib.objectInit ∈ j_ws := j_mem 102 (by decide +kernel)
theorem j_w_oc : Jvm.Cond.code Lib.objectInit ⟨#[0xb1]⟩ 1 none ∈ j_ws := j_mem 103 (by decide +kernel)
theorem j_w_abs : Jvm.Cond.static Lib.Math.abs.name ∈ j_ws ∧ Jvm.Cond.initialized "java/lang/Math" ∈ j_ws ∧ Jvm.Cond.code Lib.Math.abs.name Lib.Math.abs.code 1 (some .int) ∈ j_ws := ⟨j_mem 544 (by decide +kernel), j_mem 94 (by decide +kernel), j_mem 545 (by decide +kernel)⟩
theorem j_w_min : Jvm.Cond.static Lib.Math.min.name ∈ j_ws ∧ Jvm.Cond.initialized "java/lang/Math" ∈ j_ws ∧ Jvm.Cond.code Lib.Math.min.name Lib.Math.min.code 2 (some .int) ∈ j_ws := ⟨j_mem 783 (by decide +kernel), j_mem 94 (by decide +kernel), j_mem 784 (by decide +kernel)⟩
theorem j_ws_good : ∀ w ∈ j_ws, goodWord w = true := fun w h => (List.mem_filter.mp h).2

theorem j_tb_1 {w : Jvm.Cond} (i : Nat) (h : tables_1_1[i]? = some w) (hg : goodWord w = true) : w ∈ j_ws := List.mem_filter.mpr ⟨List.mem_append_right (k2_sels lw_privs) (show _ ∈ tables_1 from List.mem_append_left _ (List.mem_of_getElem? h)), hg⟩
theorem j_tb_2 {w : Jvm.Cond} (i : Nat) (h : tables_1_2[i]? = some w) (hg : goodWord w = true) : w ∈ j_ws := List.mem_filter.mpr ⟨List.mem_append_right (k2_sels lw_privs) (show _ ∈ tables_1 from List.mem_append_right _ (List.mem_append_left _ (List.mem_of_getElem? h))), hg⟩
theorem j_tb_3 {w : Jvm.Cond} (i : Nat) (h : tables_1_3[i]? = some w) (hg : goodWord w = true) : w ∈ j_ws := List.mem_filter.mpr ⟨List.mem_append_right (k2_sels lw_privs) (show _ ∈ tables_1 from List.mem_append_right _ (List.mem_append_right _ (List.mem_append_left _ (List.mem_of_getElem? h)))), hg⟩
theorem j_tb_4 {w : Jvm.Cond} (i : Nat) (h : tables_1_4[i]? = some w) (hg : goodWord w = true) : w ∈ j_ws := List.mem_filter.mpr ⟨List.mem_append_right (k2_sels lw_privs) (show _ ∈ tables_1 from List.mem_append_right _ (List.mem_append_right _ (List.mem_append_right _ (List.mem_append_left _ (List.mem_of_getElem? h))))), hg⟩
theorem j_tb_5 {w : Jvm.Cond} (i : Nat) (h : tables_1_5[i]? = some w) (hg : goodWord w = true) : w ∈ j_ws := List.mem_filter.mpr ⟨List.mem_append_right (k2_sels lw_privs) (show _ ∈ tables_1 from List.mem_append_right _ (List.mem_append_right _ (List.mem_append_right _ (List.mem_append_right _ (List.mem_append_left _ (List.mem_of_getElem? h)))))), hg⟩
theorem j_tb_6 {w : Jvm.Cond} (i : Nat) (h : tables_1_6[i]? = some w) (hg : goodWord w = true) : w ∈ j_ws := List.mem_filter.mpr ⟨List.mem_append_right (k2_sels lw_privs) (show _ ∈ tables_1 from List.mem_append_right _ (List.mem_append_right _ (List.mem_append_right _ (List.mem_append_right _ (List.mem_append_right _ (List.mem_of_getElem? h)))))), hg⟩
set_option maxRecDepth 1000000 in
theorem j_cd_0 : ∀ k, k < 10 → Jvm.Cond.code (mN (0 + k)) (mB (0 + k)) (mL (0 + k)) (mRt (0 + k)) ∈ j_ws := fun k h => match k, h with
  | 0, _ => j_tb_1 86 rfl rfl
  | 1, _ => j_tb_2 130 rfl rfl
  | 2, _ => j_tb_2 148 rfl rfl
  | 3, _ => j_tb_2 162 rfl rfl
  | 4, _ => j_tb_3 174 rfl rfl
  | 5, _ => j_tb_2 187 rfl rfl
  | 6, _ => j_tb_2 215 rfl rfl
  | 7, _ => j_tb_2 144 rfl rfl
  | 8, _ => j_tb_2 174 rfl rfl
  | 9, _ => j_tb_2 199 rfl rfl
  | k + 10, h => absurd h (by omega)
set_option maxRecDepth 1000000 in
theorem j_cd_1 : ∀ k, k < 10 → Jvm.Cond.code (mN (10 + k)) (mB (10 + k)) (mL (10 + k)) (mRt (10 + k)) ∈ j_ws := fun k h => match k, h with
  | 0, _ => j_tb_2 203 rfl rfl
  | 1, _ => j_tb_2 207 rfl rfl
  | 2, _ => j_tb_2 191 rfl rfl
  | 3, _ => j_tb_3 134 rfl rfl
  | 4, _ => j_tb_3 73 rfl rfl
  | 5, _ => j_tb_4 37 rfl rfl
  | 6, _ => j_tb_3 81 rfl rfl
  | 7, _ => j_tb_3 126 rfl rfl
  | 8, _ => j_tb_3 130 rfl rfl
  | 9, _ => j_tb_3 61 rfl rfl
  | k + 10, h => absurd h (by omega)
set_option maxRecDepth 1000000 in
theorem j_cd_2 : ∀ k, k < 10 → Jvm.Cond.code (mN (20 + k)) (mB (20 + k)) (mL (20 + k)) (mRt (20 + k)) ∈ j_ws := fun k h => match k, h with
  | 0, _ => j_tb_3 64 rfl rfl
  | 1, _ => j_tb_2 226 rfl rfl
  | 2, _ => j_tb_3 22 rfl rfl
  | 3, _ => j_tb_3 26 rfl rfl
  | 4, _ => j_tb_3 30 rfl rfl
  | 5, _ => j_tb_3 9 rfl rfl
  | 6, _ => j_tb_3 38 rfl rfl
  | 7, _ => j_tb_3 42 rfl rfl
  | 8, _ => j_tb_3 52 rfl rfl
  | 9, _ => j_tb_3 138 rfl rfl
  | k + 10, h => absurd h (by omega)
set_option maxRecDepth 1000000 in
theorem j_cd_3 : ∀ k, k < 10 → Jvm.Cond.code (mN (30 + k)) (mB (30 + k)) (mL (30 + k)) (mRt (30 + k)) ∈ j_ws := fun k h => match k, h with
  | 0, _ => j_tb_3 183 rfl rfl
  | 1, _ => j_tb_3 186 rfl rfl
  | 2, _ => j_tb_1 52 rfl rfl
  | 3, _ => j_tb_2 113 rfl rfl
  | 4, _ => j_tb_2 156 rfl rfl
  | 5, _ => j_tb_2 170 rfl rfl
  | 6, _ => j_tb_2 140 rfl rfl
  | 7, _ => j_tb_2 219 rfl rfl
  | 8, _ => j_tb_3 14 rfl rfl
  | 9, _ => j_tb_2 230 rfl rfl
  | k + 10, h => absurd h (by omega)
set_option maxRecDepth 1000000 in
theorem j_cd_4 : ∀ k, k < 10 → Jvm.Cond.code (mN (40 + k)) (mB (40 + k)) (mL (40 + k)) (mRt (40 + k)) ∈ j_ws := fun k h => match k, h with
  | 0, _ => j_tb_3 198 rfl rfl
  | 1, _ => j_tb_3 203 rfl rfl
  | 2, _ => j_tb_1 46 rfl rfl
  | 3, _ => j_tb_2 93 rfl rfl
  | 4, _ => j_tb_2 97 rfl rfl
  | 5, _ => j_tb_2 117 rfl rfl
  | 6, _ => j_tb_2 126 rfl rfl
  | 7, _ => j_tb_2 134 rfl rfl
  | 8, _ => j_tb_2 101 rfl rfl
  | 9, _ => j_tb_2 105 rfl rfl
  | k + 10, h => absurd h (by omega)
set_option maxRecDepth 1000000 in
theorem j_cd_5 : ∀ k, k < 10 → Jvm.Cond.code (mN (50 + k)) (mB (50 + k)) (mL (50 + k)) (mRt (50 + k)) ∈ j_ws := fun k h => match k, h with
  | 0, _ => j_tb_2 109 rfl rfl
  | 1, _ => j_tb_1 155 rfl rfl
  | 2, _ => j_tb_3 106 rfl rfl
  | 3, _ => j_tb_4 7 rfl rfl
  | 4, _ => j_tb_3 110 rfl rfl
  | 5, _ => j_tb_3 148 rfl rfl
  | 6, _ => j_tb_3 114 rfl rfl
  | 7, _ => j_tb_3 118 rfl rfl
  | 8, _ => j_tb_3 122 rfl rfl
  | 9, _ => j_tb_1 27 rfl rfl
  | k + 10, h => absurd h (by omega)
set_option maxRecDepth 1000000 in
theorem j_cd_6 : ∀ k, k < 10 → Jvm.Cond.code (mN (60 + k)) (mB (60 + k)) (mL (60 + k)) (mRt (60 + k)) ∈ j_ws := fun k h => match k, h with
  | 0, _ => j_tb_2 35 rfl rfl
  | 1, _ => j_tb_2 43 rfl rfl
  | 2, _ => j_tb_4 47 rfl rfl
  | 3, _ => j_tb_4 66 rfl rfl
  | 4, _ => j_tb_1 197 rfl rfl
  | 5, _ => j_tb_3 217 rfl rfl
  | 6, _ => j_tb_3 226 rfl rfl
  | 7, _ => j_tb_3 232 rfl rfl
  | 8, _ => j_tb_1 17 rfl rfl
  | 9, _ => j_tb_2 27 rfl rfl
  | k + 10, h => absurd h (by omega)
set_option maxRecDepth 1000000 in
theorem j_cd_7 : ∀ k, k < 10 → Jvm.Cond.code (mN (70 + k)) (mB (70 + k)) (mL (70 + k)) (mRt (70 + k)) ∈ j_ws := fun k h => match k, h with
  | 0, _ => j_tb_2 47 rfl rfl
  | 1, _ => j_tb_2 59 rfl rfl
  | 2, _ => j_tb_2 63 rfl rfl
  | 3, _ => j_tb_2 67 rfl rfl
  | 4, _ => j_tb_2 77 rfl rfl
  | 5, _ => j_tb_2 81 rfl rfl
  | 6, _ => j_tb_2 85 rfl rfl
  | 7, _ => j_tb_2 89 rfl rfl
  | 8, _ => j_tb_2 152 rfl rfl
  | 9, _ => j_tb_2 166 rfl rfl
  | k + 10, h => absurd h (by omega)
set_option maxRecDepth 1000000 in
theorem j_cd_8 : ∀ k, k < 10 → Jvm.Cond.code (mN (80 + k)) (mB (80 + k)) (mL (80 + k)) (mRt (80 + k)) ∈ j_ws := fun k h => match k, h with
  | 0, _ => j_tb_2 178 rfl rfl
  | 1, _ => j_tb_2 183 rfl rfl
  | 2, _ => j_tb_2 195 rfl rfl
  | 3, _ => j_tb_2 238 rfl rfl
  | 4, _ => j_tb_3 2 rfl rfl
  | 5, _ => j_tb_3 34 rfl rfl
  | 6, _ => j_tb_3 48 rfl rfl
  | 7, _ => j_tb_3 57 rfl rfl
  | 8, _ => j_tb_3 69 rfl rfl
  | 9, _ => j_tb_3 77 rfl rfl
  | k + 10, h => absurd h (by omega)
set_option maxRecDepth 1000000 in
theorem j_cd_9 : ∀ k, k < 10 → Jvm.Cond.code (mN (90 + k)) (mB (90 + k)) (mL (90 + k)) (mRt (90 + k)) ∈ j_ws := fun k h => match k, h with
  | 0, _ => j_tb_3 86 rfl rfl
  | 1, _ => j_tb_3 94 rfl rfl
  | 2, _ => j_tb_3 102 rfl rfl
  | 3, _ => j_tb_3 144 rfl rfl
  | 4, _ => j_tb_3 156 rfl rfl
  | 5, _ => j_tb_3 166 rfl rfl
  | 6, _ => j_tb_3 170 rfl rfl
  | 7, _ => j_tb_3 179 rfl rfl
  | 8, _ => j_tb_3 190 rfl rfl
  | 9, _ => j_tb_3 194 rfl rfl
  | k + 10, h => absurd h (by omega)
set_option maxRecDepth 1000000 in
theorem j_cd_10 : ∀ k, k < 10 → Jvm.Cond.code (mN (100 + k)) (mB (100 + k)) (mL (100 + k)) (mRt (100 + k)) ∈ j_ws := fun k h => match k, h with
  | 0, _ => j_tb_3 208 rfl rfl
  | 1, _ => j_tb_3 212 rfl rfl
  | 2, _ => j_tb_3 239 rfl rfl
  | 3, _ => j_tb_4 12 rfl rfl
  | 4, _ => j_tb_4 16 rfl rfl
  | 5, _ => j_tb_4 21 rfl rfl
  | 6, _ => j_tb_4 25 rfl rfl
  | 7, _ => j_tb_4 29 rfl rfl
  | 8, _ => j_tb_4 33 rfl rfl
  | 9, _ => j_tb_4 51 rfl rfl
  | k + 10, h => absurd h (by omega)
set_option maxRecDepth 1000000 in
theorem j_cd_11 : ∀ k, k < 10 → Jvm.Cond.code (mN (110 + k)) (mB (110 + k)) (mL (110 + k)) (mRt (110 + k)) ∈ j_ws := fun k h => match k, h with
  | 0, _ => j_tb_4 55 rfl rfl
  | 1, _ => j_tb_4 59 rfl rfl
  | 2, _ => j_tb_2 39 rfl rfl
  | 3, _ => j_tb_2 31 rfl rfl
  | 4, _ => j_tb_2 55 rfl rfl
  | 5, _ => j_tb_2 51 rfl rfl
  | 6, _ => j_tb_4 3 rfl rfl
  | 7, _ => j_tb_2 70 rfl rfl
  | 8, _ => j_tb_3 5 rfl rfl
  | 9, _ => j_tb_3 90 rfl rfl
  | k + 10, h => absurd h (by omega)
set_option maxRecDepth 1000000 in
theorem j_cd_12 : ∀ k, k < 10 → Jvm.Cond.code (mN (120 + k)) (mB (120 + k)) (mL (120 + k)) (mRt (120 + k)) ∈ j_ws := fun k h => match k, h with
  | 0, _ => j_tb_3 98 rfl rfl
  | 1, _ => j_tb_2 211 rfl rfl
  | 2, _ => j_tb_2 234 rfl rfl
  | 3, _ => j_tb_3 161 rfl rfl
  | 4, _ => j_tb_3 152 rfl rfl
  | 5, _ => j_tb_2 122 rfl rfl
  | 6, _ => j_tb_4 72 rfl rfl
  | 7, _ => j_tb_4 208 rfl rfl
  | 8, _ => j_tb_6 70 rfl rfl
  | 9, _ => j_tb_6 51 rfl rfl
  | k + 10, h => absurd h (by omega)
set_option maxRecDepth 1000000 in
theorem j_cd_13 : ∀ k, k < 10 → Jvm.Cond.code (mN (130 + k)) (mB (130 + k)) (mL (130 + k)) (mRt (130 + k)) ∈ j_ws := fun k h => match k, h with
  | 0, _ => j_tb_5 123 rfl rfl
  | 1, _ => j_tb_4 231 rfl rfl
  | 2, _ => j_tb_4 201 rfl rfl
  | 3, _ => j_tb_4 205 rfl rfl
  | 4, _ => j_tb_5 3 rfl rfl
  | 5, _ => j_tb_4 212 rfl rfl
  | 6, _ => j_tb_6 32 rfl rfl
  | 7, _ => j_tb_4 216 rfl rfl
  | 8, _ => j_tb_4 220 rfl rfl
  | 9, _ => j_tb_4 227 rfl rfl
  | k + 10, h => absurd h (by omega)
set_option maxRecDepth 1000000 in
theorem j_cd_14 : ∀ k, k < 10 → Jvm.Cond.code (mN (140 + k)) (mB (140 + k)) (mL (140 + k)) (mRt (140 + k)) ∈ j_ws := fun k h => match k, h with
  | 0, _ => j_tb_4 239 rfl rfl
  | 1, _ => j_tb_4 224 rfl rfl
  | 2, _ => j_tb_4 235 rfl rfl
  | 3, _ => j_tb_5 7 rfl rfl
  | 4, _ => j_tb_5 11 rfl rfl
  | 5, _ => j_tb_5 15 rfl rfl
  | 6, _ => j_tb_5 19 rfl rfl
  | 7, _ => j_tb_5 26 rfl rfl
  | 8, _ => j_tb_5 23 rfl rfl
  | 9, _ => j_tb_5 30 rfl rfl
  | k + 10, h => absurd h (by omega)
set_option maxRecDepth 1000000 in
theorem j_cd_15 : ∀ k, k < 10 → Jvm.Cond.code (mN (150 + k)) (mB (150 + k)) (mL (150 + k)) (mRt (150 + k)) ∈ j_ws := fun k h => match k, h with
  | 0, _ => j_tb_5 42 rfl rfl
  | 1, _ => j_tb_5 57 rfl rfl
  | 2, _ => j_tb_5 64 rfl rfl
  | 3, _ => j_tb_5 50 rfl rfl
  | 4, _ => j_tb_5 46 rfl rfl
  | 5, _ => j_tb_5 54 rfl rfl
  | 6, _ => j_tb_5 61 rfl rfl
  | 7, _ => j_tb_5 38 rfl rfl
  | 8, _ => j_tb_5 34 rfl rfl
  | 9, _ => j_tb_5 68 rfl rfl
  | k + 10, h => absurd h (by omega)
set_option maxRecDepth 1000000 in
theorem j_cd_16 : ∀ k, k < 10 → Jvm.Cond.code (mN (160 + k)) (mB (160 + k)) (mL (160 + k)) (mRt (160 + k)) ∈ j_ws := fun k h => match k, h with
  | 0, _ => j_tb_5 76 rfl rfl
  | 1, _ => j_tb_5 96 rfl rfl
  | 2, _ => j_tb_5 84 rfl rfl
  | 3, _ => j_tb_4 77 rfl rfl
  | 4, _ => j_tb_5 194 rfl rfl
  | 5, _ => j_tb_5 116 rfl rfl
  | 6, _ => j_tb_5 208 rfl rfl
  | 7, _ => j_tb_5 80 rfl rfl
  | 8, _ => j_tb_5 120 rfl rfl
  | 9, _ => j_tb_5 72 rfl rfl
  | k + 10, h => absurd h (by omega)
set_option maxRecDepth 1000000 in
theorem j_cd_17 : ∀ k, k < 10 → Jvm.Cond.code (mN (170 + k)) (mB (170 + k)) (mL (170 + k)) (mRt (170 + k)) ∈ j_ws := fun k h => match k, h with
  | 0, _ => j_tb_5 88 rfl rfl
  | 1, _ => j_tb_5 100 rfl rfl
  | 2, _ => j_tb_5 92 rfl rfl
  | 3, _ => j_tb_5 108 rfl rfl
  | 4, _ => j_tb_5 112 rfl rfl
  | 5, _ => j_tb_5 127 rfl rfl
  | 6, _ => j_tb_5 135 rfl rfl
  | 7, _ => j_tb_5 131 rfl rfl
  | 8, _ => j_tb_5 104 rfl rfl
  | 9, _ => j_tb_5 139 rfl rfl
  | k + 10, h => absurd h (by omega)
set_option maxRecDepth 1000000 in
theorem j_cd_18 : ∀ k, k < 10 → Jvm.Cond.code (mN (180 + k)) (mB (180 + k)) (mL (180 + k)) (mRt (180 + k)) ∈ j_ws := fun k h => match k, h with
  | 0, _ => j_tb_5 159 rfl rfl
  | 1, _ => j_tb_5 151 rfl rfl
  | 2, _ => j_tb_5 155 rfl rfl
  | 3, _ => j_tb_5 163 rfl rfl
  | 4, _ => j_tb_5 178 rfl rfl
  | 5, _ => j_tb_5 175 rfl rfl
  | 6, _ => j_tb_5 171 rfl rfl
  | 7, _ => j_tb_5 186 rfl rfl
  | 8, _ => j_tb_5 147 rfl rfl
  | 9, _ => j_tb_6 20 rfl rfl
  | k + 10, h => absurd h (by omega)
set_option maxRecDepth 1000000 in
theorem j_cd_19 : ∀ k, k < 10 → Jvm.Cond.code (mN (190 + k)) (mB (190 + k)) (mL (190 + k)) (mRt (190 + k)) ∈ j_ws := fun k h => match k, h with
  | 0, _ => j_tb_5 143 rfl rfl
  | 1, _ => j_tb_5 167 rfl rfl
  | 2, _ => j_tb_5 182 rfl rfl
  | 3, _ => j_tb_5 198 rfl rfl
  | 4, _ => j_tb_5 190 rfl rfl
  | 5, _ => j_tb_5 204 rfl rfl
  | 6, _ => j_tb_5 216 rfl rfl
  | 7, _ => j_tb_5 212 rfl rfl
  | 8, _ => j_tb_5 220 rfl rfl
  | 9, _ => j_tb_5 224 rfl rfl
  | k + 10, h => absurd h (by omega)
set_option maxRecDepth 1000000 in
theorem j_cd_20 : ∀ k, k < 10 → Jvm.Cond.code (mN (200 + k)) (mB (200 + k)) (mL (200 + k)) (mRt (200 + k)) ∈ j_ws := fun k h => match k, h with
  | 0, _ => j_tb_6 8 rfl rfl
  | 1, _ => j_tb_6 12 rfl rfl
  | 2, _ => j_tb_6 16 rfl rfl
  | 3, _ => j_tb_6 4 rfl rfl
  | 4, _ => j_tb_5 236 rfl rfl
  | 5, _ => j_tb_6 24 rfl rfl
  | 6, _ => j_tb_6 0 rfl rfl
  | 7, _ => j_tb_5 232 rfl rfl
  | 8, _ => j_tb_5 228 rfl rfl
  | 9, _ => j_tb_6 28 rfl rfl
  | k + 10, h => absurd h (by omega)
set_option maxRecDepth 1000000 in
theorem j_cd_21 : ∀ k, k < 10 → Jvm.Cond.code (mN (210 + k)) (mB (210 + k)) (mL (210 + k)) (mRt (210 + k)) ∈ j_ws := fun k h => match k, h with
  | 0, _ => j_tb_6 36 rfl rfl
  | 1, _ => j_tb_6 40 rfl rfl
  | 2, _ => j_tb_6 48 rfl rfl
  | 3, _ => j_tb_6 44 rfl rfl
  | 4, _ => j_tb_6 55 rfl rfl
  | 5, _ => j_tb_6 59 rfl rfl
  | 6, _ => j_tb_6 74 rfl rfl
  | 7, _ => j_tb_6 67 rfl rfl
  | 8, _ => j_tb_6 63 rfl rfl
  | 9, _ => j_tb_6 78 rfl rfl
  | k + 10, h => absurd h (by omega)
set_option maxRecDepth 1000000 in
theorem j_cd_22 : ∀ k, k < 10 → Jvm.Cond.code (mN (220 + k)) (mB (220 + k)) (mL (220 + k)) (mRt (220 + k)) ∈ j_ws := fun k h => match k, h with
  | 0, _ => j_tb_6 90 rfl rfl
  | 1, _ => j_tb_6 86 rfl rfl
  | 2, _ => j_tb_6 94 rfl rfl
  | 3, _ => j_tb_6 98 rfl rfl
  | 4, _ => j_tb_6 82 rfl rfl
  | 5, _ => j_tb_6 106 rfl rfl
  | 6, _ => j_tb_6 102 rfl rfl
  | 7, _ => j_tb_6 110 rfl rfl
  | 8, _ => j_tb_6 114 rfl rfl
  | 9, _ => j_tb_6 122 rfl rfl
  | k + 10, h => absurd h (by omega)
set_option maxRecDepth 1000000 in
theorem j_cd_23 : ∀ k, k < 6 → Jvm.Cond.code (mN (230 + k)) (mB (230 + k)) (mL (230 + k)) (mRt (230 + k)) ∈ j_ws := fun k h => match k, h with
  | 0, _ => j_tb_6 118 rfl rfl
  | 1, _ => j_tb_6 131 rfl rfl
  | 2, _ => j_tb_6 136 rfl rfl
  | 3, _ => j_tb_6 126 rfl rfl
  | 4, _ => j_tb_4 40 rfl rfl
  | 5, _ => j_tb_1 31 rfl rfl
  | k + 6, h => absurd h (by omega)
theorem j_cds : ∀ k, k < 236 → Jvm.Cond.code (mN k) (mB k) (mL k) (mRt k) ∈ j_ws := by
  intro k hk
  by_cases h0 : k < 10
  · have := j_cd_0 (k - 0) (by omega)
    rwa [show 0 + (k - 0) = k by omega] at this
  by_cases h10 : k < 20
  · have := j_cd_1 (k - 10) (by omega)
    rwa [show 10 + (k - 10) = k by omega] at this
  by_cases h20 : k < 30
  · have := j_cd_2 (k - 20) (by omega)
    rwa [show 20 + (k - 20) = k by omega] at this
  by_cases h30 : k < 40
  · have := j_cd_3 (k - 30) (by omega)
    rwa [show 30 + (k - 30) = k by omega] at this
  by_cases h40 : k < 50
  · have := j_cd_4 (k - 40) (by omega)
    rwa [show 40 + (k - 40) = k by omega] at this
  by_cases h50 : k < 60
  · have := j_cd_5 (k - 50) (by omega)
    rwa [show 50 + (k - 50) = k by omega] at this
  by_cases h60 : k < 70
  · have := j_cd_6 (k - 60) (by omega)
    rwa [show 60 + (k - 60) = k by omega] at this
  by_cases h70 : k < 80
  · have := j_cd_7 (k - 70) (by omega)
    rwa [show 70 + (k - 70) = k by omega] at this
  by_cases h80 : k < 90
  · have := j_cd_8 (k - 80) (by omega)
    rwa [show 80 + (k - 80) = k by omega] at this
  by_cases h90 : k < 100
  · have := j_cd_9 (k - 90) (by omega)
    rwa [show 90 + (k - 90) = k by omega] at this
  by_cases h100 : k < 110
  · have := j_cd_10 (k - 100) (by omega)
    rwa [show 100 + (k - 100) = k by omega] at this
  by_cases h110 : k < 120
  · have := j_cd_11 (k - 110) (by omega)
    rwa [show 110 + (k - 110) = k by omega] at this
  by_cases h120 : k < 130
  · have := j_cd_12 (k - 120) (by omega)
    rwa [show 120 + (k - 120) = k by omega] at this
  by_cases h130 : k < 140
  · have := j_cd_13 (k - 130) (by omega)
    rwa [show 130 + (k - 130) = k by omega] at this
  by_cases h140 : k < 150
  · have := j_cd_14 (k - 140) (by omega)
    rwa [show 140 + (k - 140) = k by omega] at this
  by_cases h150 : k < 160
  · have := j_cd_15 (k - 150) (by omega)
    rwa [show 150 + (k - 150) = k by omega] at this
  by_cases h160 : k < 170
  · have := j_cd_16 (k - 160) (by omega)
    rwa [show 160 + (k - 160) = k by omega] at this
  by_cases h170 : k < 180
  · have := j_cd_17 (k - 170) (by omega)
    rwa [show 170 + (k - 170) = k by omega] at this
  by_cases h180 : k < 190
  · have := j_cd_18 (k - 180) (by omega)
    rwa [show 180 + (k - 180) = k by omega] at this
  by_cases h190 : k < 200
  · have := j_cd_19 (k - 190) (by omega)
    rwa [show 190 + (k - 190) = k by omega] at this
  by_cases h200 : k < 210
  · have := j_cd_20 (k - 200) (by omega)
    rwa [show 200 + (k - 200) = k by omega] at this
  by_cases h210 : k < 220
  · have := j_cd_21 (k - 210) (by omega)
    rwa [show 210 + (k - 210) = k by omega] at this
  by_cases h220 : k < 230
  · have := j_cd_22 (k - 220) (by omega)
    rwa [show 220 + (k - 220) = k by omega] at this
  by_cases h230 : k < 240
  · have := j_cd_23 (k - 230) (by omega)
    rwa [show 230 + (k - 230) = k by omega] at this
  omega
/-- the length of an instruction (switches: not told) -/
def j_il : Instr → Nat
  | .bipush _ | .iload _ | .lload _ | .aload _ | .istore _ | .lstore _ | .astore _ | .newarray _ => 2
  | .sipush _ | .ldc_w _ | .ldc2_w _ | .iinc _ _ | .ifCond _ _ | .if_icmp _ _ | .goto _ | .getfield _ | .putfield _ | .getstatic _ | .new _ | .anewarray _ | .invokevirtual _ | .invokestatic _ | .invokespecial _ => 3
  | .multianewarray _ _ => 4
  | _ => 1
def j_isw : Instr → Bool
  | .tableswitch .. | .lookupswitch .. => true
  | _ => false
def j_kd (c k : Nat) : Nat := match j_ty c k with
  | .int => 0
  | .long => 1
  | .boolean => 3
  | .object _ => 2
  | .array _ => 2
  | _ => 9
def j_rt (t : Option FieldType) : Nat := match t with
  | none => 0
  | some .int => 1
  | some .boolean => 1
  | some .long => 2
  | _ => 9
def j_np (y : MethodName) : Option Nat := (parseMethodDescriptor y.desc).map (fun d => d.parameters.length)
def j_lkA (l own idx k kind : Nat) : Bool := match j_lks[l]? with
  | some (o, i, m, kd, _) => decide (o = own ∧ i = idx ∧ m = k ∧ kd = kind)
  | none => false
def j_okE (k own pc : Nat) (i : Instr) (q : List Nat) : Bool := match i with
  | .bipush n => decide ((Int8.ofInt n).toInt32 = j_k n)
  | .sipush n => decide ((Int16.ofInt n).toInt32 = j_k n)
  | .ldc_w idx => match q with
    | [c, p] => j_has p (.constant (j_CN own) idx (j_ci c))
    | _ => false
  | .ldc2_w idx => match q with
    | [c, p] => j_has p (.constantLong (j_CN own) idx (j_cJ c))
    | _ => false
  | .ifCond _ off | .if_icmp _ off | .goto off => match q with
    | [t] => decide ((pc : Int) + off = (t : Int))
    | _ => false
  | .tableswitch d lo hi offs => match q with
    | t :: ts => decide ((pc : Int) + d = (t : Int)) && decide (-1000 ≤ lo) && decide (lo ≤ 1000) && decide (ts.length ≤ 1000) && decide (hi = lo + ts.length - 1) && decide (offs.toList = ts.map (fun (x : Nat) => ((x : Int) - (pc : Int))))
    | _ => false
  | .lookupswitch d ps => match q with
    | [t, a, b] => decide ((pc : Int) + d = (t : Int)) && decide (ps.toList = [(0, (a : Int) - (pc : Int)), (1, (b : Int) - (pc : Int))])
    | _ => false
  | .getfield idx => match q with
    | [c, f, kd, l] => decide (c < 8) && decide (f < j_nf c) && decide (kd = j_kd c f) && (match j_fls[l]? with
      | some (o, i, c', f', _) => decide (o = own ∧ i = idx ∧ c' = c ∧ f' = f)
      | none => false)
    | _ => false
  | .putfield idx => match q with
    | [c, f, kd, l] => decide (c < 8) && decide (f < j_nf c) && decide (kd = j_kd c f) && (match j_fls[l]? with
      | some (o, i, c', f', _) => decide (o = own ∧ i = idx ∧ c' = c ∧ f' = f)
      | none => false) && (decide ((j_T c f).2.2.2 = false) || (decide ((mN k).name = "<init>") && decide ((j_T c f).1 = j_CN own)))
    | _ => false
  | .getstatic idx => match q with
    | [t, p] => decide (t < 4) && j_has p (.fieldLink (j_CN own) idx (j_sC t) (j_sN t) "[I")
    | _ => false
  | .new idx => match q with
    | [c, n, p] => decide (c < 8) && decide (n = j_nf c) && j_has p (.classLink (j_CN own) idx (j_CN c))
    | _ => false
  | .newarray ty => match newarray.typeOf ty with
    | .int | .byte | .boolean | .long => true
    | _ => false
  | .anewarray idx => match q with
    | [p] => j_has p (.classLink (j_CN own) idx RX0)
    | _ => false
  | .multianewarray idx d => match q with
    | [p] => decide (d = 2) && j_has p (.classLink (j_CN own) idx "[[I")
    | _ => false
  | .invokevirtual idx => match q with
    | [m, na, rt, c, l] => decide (m < 236) && decide (c < 8) && decide (j_CN c = (mN m).cls) && decide (j_np (mN m) = some na) && decide (rt = j_rt (mRt m)) && j_lkA l own idx m 0
    | _ => false
  | .invokestatic idx => match q with
    | [m, na, rt, l] => decide (m < 236) && decide (j_np (mN m) = some na) && decide (rt = j_rt (mRt m)) && (j_lkA l own idx m 1 || j_lkA l own idx m 4)
    | [l] => j_lkA l own idx 0 8
    | [l, _] => j_lkA l own idx 0 6
    | [l, _, _] => j_lkA l own idx 0 7
    | _ => false
  | .invokespecial idx => match q with
    | [m, na, rt, l] => decide (m < 236) && decide (j_np (mN m) = some na) && decide (rt = j_rt (mRt m)) && decide (mRt m = none) && (j_lkA l own idx m 2 || j_lkA l own idx m 3)
    | [l] => j_lkA l own idx 0 9
    | _ => false
  | .ireturn => match q with
    | [0] => decide (mRt k = some .int)
    | [1] => decide (mRt k = some .boolean)
    | _ => false
  | .return_ => decide (mRt k = none)
  | .lreturn => decide (mRt k = some .long)
  | _ => true
def j_dec (b : ByteArray) (pc : Nat) (i : Instr) : Bool := match decode b pc with
  | .ok (i', n) => decide (i' = i) && (decide (n = j_il i) || j_isw i)
  | .error _ => false
def j_chk (k own : Nat) : Bool := (j_code k).all fun e => j_dec (mB k) e.1 e.2.1 && j_okE k own e.1 e.2.1 e.2.2
def j_own : List Nat := [0, 0, 0, 0, 0, 0, 0, 0, 0, 0, 0, 0, 0, 0, 0, 0, 0, 0, 0, 0, 0, 0, 0, 0, 0, 0, 0, 0, 0, 0, 0, 0, 1, 1, 1, 1, 1, 1, 1, 1, 1, 1, 2, 2, 2, 2, 2, 2, 2, 2, 2, 3, 3, 3, 3, 3, 3, 3, 3, 4, 4, 4, 4, 4, 5, 5, 5, 5, 6, 6, 6, 6, 6, 6, 6, 6, 6, 6, 6, 6, 6, 6, 6, 6, 6, 6, 6, 6, 6, 6, 6, 6, 6, 6, 6, 6, 6, 6, 6, 6, 6, 6, 6, 6, 6, 6, 6, 6, 6, 6, 6, 6, 6, 6, 6, 6, 6, 6, 6, 6, 6, 6, 6, 6, 6, 6, 7, 7, 7, 7, 7, 7, 7, 7, 7, 7, 7, 7, 7, 7, 7, 7, 7, 7, 7, 7, 7, 7, 7, 7, 7, 7, 7, 7, 7, 7, 7, 7, 7, 7, 7, 7, 7, 7, 7, 7, 7, 7, 7, 7, 7, 7, 7, 7, 7, 7, 7, 7, 7, 7, 7, 7, 7, 7, 7, 7, 7, 7, 7, 7, 7, 7, 7, 7, 7, 7, 7, 7, 7, 7, 7, 7, 7, 7, 7, 7, 7, 7, 7, 7, 7, 7, 7, 7, 7, 7, 7, 7, 7, 7, 7, 7, 7, 7, 7, 7, 7, 7, 7, 7, 7, 7, 7, 7, 9, 11, 8]

