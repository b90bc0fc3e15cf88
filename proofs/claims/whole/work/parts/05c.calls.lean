/-! the calls: kind 0 of a method of the same family by its plain link, 1 by a nest link; then static (0), virtual (1), constructor (2) -/
def calL : List (Nat × Nat × Nat × Nat × Nat × Nat × Nat) := [
  (0, 9, 1, 1, 1, 0, 2), (0, 12, 168, 1, 11, 0, 2), (0, 13, 10, 2, 1, 0, 1), (0, 17, 169, 2, 11, 0, 1), (0, 18, 12, 1, 1, 0, 1), (0, 22, 171, 1, 11, 0, 1), (0, 23, 13, 2, 1, 0, 1), (0, 26, 172, 2, 11, 0, 1),
  (0, 27, 57, 2, 1, 0, 1), (0, 30, 186, 2, 11, 0, 1), (0, 31, 58, 6, 1, 0, 1), (0, 35, 187, 6, 11, 0, 1), (0, 36, 62, 2, 1, 0, 1), (0, 39, 189, 2, 11, 0, 1), (0, 40, 63, 5, 1, 0, 1), (0, 44, 190, 5, 11, 0, 1),
  (0, 45, 67, 3, 1, 0, 1), (0, 49, 192, 3, 11, 0, 1), (0, 50, 68, 3, 1, 0, 1), (0, 53, 193, 3, 11, 0, 1), (0, 54, 69, 3, 1, 0, 1), (0, 57, 194, 3, 11, 0, 1), (0, 58, 70, 2, 1, 0, 1), (0, 61, 195, 2, 11, 0, 1),
  (0, 62, 71, 1, 1, 0, 1), (0, 65, 196, 1, 11, 0, 1), (0, 66, 72, 1, 1, 0, 1), (0, 69, 197, 1, 11, 0, 1), (0, 70, 131, 2, 1, 0, 1), (0, 73, 240, 2, 11, 0, 1), (0, 74, 133, 3, 1, 0, 1), (0, 77, 241, 3, 11, 0, 1),
  (0, 78, 136, 3, 1, 0, 1), (0, 81, 242, 3, 11, 0, 1), (0, 82, 138, 3, 1, 0, 1), (0, 85, 243, 3, 11, 0, 1), (0, 86, 140, 3, 1, 0, 1), (0, 89, 244, 3, 11, 0, 1), (0, 90, 151, 2, 1, 0, 1), (0, 93, 251, 2, 11, 0, 1),
  (0, 94, 153, 3, 1, 0, 1), (0, 97, 252, 3, 11, 0, 1), (0, 98, 154, 3, 1, 0, 1), (0, 101, 253, 3, 11, 0, 1), (0, 102, 161, 4, 1, 0, 1), (0, 106, 257, 4, 11, 0, 1), (0, 107, 163, 3, 1, 0, 1), (0, 110, 258, 3, 11, 0, 1),
  (0, 111, 165, 2, 1, 0, 1), (0, 115, 259, 2, 11, 0, 1), (1, 11, 2, 1, 2, 1, 2), (1, 18, 4, 1, 4, 1, 2), (1, 29, 5, 1, 5, 1, 2), (2, 30, 3, 1, 3, 1, 2), (5, 25, 6, 1, 6, 1, 2), (5, 32, 7, 2, 7, 1, 2),
  (5, 56, 8, 1, 8, 1, 2), (5, 57, 9, 1, 9, 1, 2), (1, 35, 11, 2, 2, 1, 1), (1, 44, 14, 1, 0, 0, 0), (1, 47, 16, 1, 2, 1, 1), (1, 51, 48, 1, 1, 0, 1), (1, 54, 51, 1, 2, 1, 1), (1, 96, 15, 3, 0, 0, 0),
  (2, 47, 17, 1, 3, 1, 1), (2, 50, 19, 2, 2, 0, 1), (2, 54, 21, 2, 2, 0, 1), (2, 57, 25, 3, 2, 0, 1), (2, 61, 47, 1, 3, 1, 1), (3, 31, 18, 1, 3, 0, 1), (2, 65, 20, 2, 2, 0, 1), (2, 68, 22, 1, 0, 0, 0),
  (2, 72, 24, 1, 0, 0, 0), (2, 75, 23, 1, 0, 0, 0), (2, 80, 26, 1, 0, 1, 0), (2, 84, 27, 1, 0, 1, 0), (2, 91, 28, 3, 2, 0, 1), (2, 95, 31, 1, 0, 1, 0), (2, 99, 32, 3, 2, 0, 1), (2, 103, 41, 4, 3, 1, 1),
  (2, 109, 29, 3, 2, 0, 1), (2, 113, 30, 2, 0, 1, 0), (2, 117, 15, 3, 0, 1, 0), (2, 128, 33, 4, 2, 0, 1), (2, 132, 34, 1, 42, 0, 1), (2, 137, 36, 2, 42, 0, 1), (15, 335, 35, 1, 42, 0, 1), (15, 492, 37, 1, 42, 0, 1),
  (15, 495, 38, 2, 0, 0, 0), (16, 9, 39, 2, 0, 0, 0), (15, 1059, 40, 3, 0, 0, 0), (3, 59, 43, 3, 3, 0, 1), (3, 67, 45, 4, 3, 0, 1), (3, 74, 46, 2, 3, 0, 1), (3, 78, 44, 3, 3, 0, 1), (1, 179, 49, 1, 1, 0, 1),
  (1, 112, 50, 2, 4, 1, 1), (2, 44, 52, 5, 10, 1, 2), (10, 7, 53, 2, 0, 0, 0), (10, 13, 54, 2, 0, 0, 0), (10, 28, 55, 2, 0, 0, 0), (10, 38, 56, 2, 0, 0, 0), (17, 304, 53, 2, 0, 0, 0), (1, 66, 59, 1, 0, 0, 0),
  (1, 69, 60, 2, 0, 0, 0), (1, 77, 61, 6, 4, 1, 1), (4, 44, 59, 1, 0, 1, 0), (1, 82, 27, 1, 0, 0, 0), (1, 85, 64, 2, 0, 0, 0), (1, 88, 65, 3, 4, 1, 1), (1, 92, 66, 4, 4, 1, 1), (4, 58, 14, 1, 0, 1, 0),
  (4, 61, 27, 1, 0, 1, 0), (1, 116, 73, 2, 5, 1, 1), (5, 58, 74, 2, 5, 0, 1), (5, 67, 78, 1, 8, 1, 1), (5, 71, 79, 1, 5, 0, 1), (5, 77, 81, 1, 8, 1, 1), (5, 87, 82, 1, 8, 1, 1), (5, 90, 83, 1, 8, 1, 1),
  (5, 96, 86, 4, 5, 0, 1), (5, 109, 130, 4, 5, 0, 1), (5, 130, 75, 1, 6, 1, 1), (5, 134, 76, 1, 9, 1, 1), (5, 141, 77, 3, 8, 1, 1), (5, 144, 80, 1, 5, 0, 1), (8, 44, 78, 1, 8, 0, 1), (8, 52, 84, 1, 8, 0, 1),
  (8, 58, 85, 2, 8, 0, 1), (5, 150, 87, 2, 8, 1, 1), (5, 163, 89, 1, 5, 0, 1), (5, 166, 91, 2, 5, 0, 1), (5, 173, 97, 3, 5, 0, 1), (5, 177, 104, 2, 5, 0, 1), (5, 183, 107, 2, 6, 1, 1), (5, 187, 108, 4, 5, 0, 1),
  (5, 191, 114, 2, 5, 0, 1), (5, 194, 118, 2, 5, 0, 1), (5, 197, 121, 3, 5, 0, 1), (5, 201, 124, 2, 5, 0, 1), (5, 204, 96, 2, 8, 1, 1), (5, 208, 125, 2, 5, 0, 1), (5, 212, 126, 3, 5, 0, 1), (8, 74, 88, 2, 8, 0, 1),
  (8, 78, 31, 1, 0, 1, 0), (5, 216, 90, 2, 9, 1, 1), (5, 223, 88, 2, 8, 1, 1), (5, 227, 92, 2, 0, 1, 0), (5, 233, 95, 2, 0, 1, 0), (5, 236, 31, 1, 0, 1, 0), (12, 22, 31, 1, 0, 0, 0), (12, 13, 93, 1, 0, 0, 0),
  (12, 9, 94, 1, 0, 0, 0), (12, 26, 30, 2, 0, 0, 0), (5, 246, 98, 4, 9, 1, 1), (5, 250, 101, 1, 6, 1, 1), (5, 253, 103, 4, 6, 1, 1), (9, 36, 15, 3, 0, 1, 0), (9, 40, 92, 2, 0, 1, 0), (9, 44, 95, 2, 0, 1, 0),
  (9, 47, 99, 1, 0, 1, 0), (12, 32, 100, 2, 0, 0, 0), (6, 39, 102, 2, 6, 0, 1), (5, 257, 105, 5, 5, 0, 1), (5, 261, 106, 2, 6, 1, 1), (6, 43, 103, 4, 6, 0, 1), (5, 271, 109, 1, 9, 1, 1), (5, 274, 110, 1, 7, 1, 1),
  (5, 275, 111, 1, 6, 1, 1), (5, 281, 112, 6, 7, 1, 1), (5, 284, 113, 2, 9, 1, 1), (5, 291, 93, 1, 0, 1, 0), (5, 295, 115, 1, 0, 1, 0), (5, 298, 116, 2, 5, 0, 1), (5, 302, 117, 2, 0, 1, 0), (5, 287, 65, 3, 4, 1, 1),
  (5, 309, 59, 1, 0, 1, 0), (5, 313, 119, 2, 5, 0, 1), (5, 320, 120, 3, 4, 1, 1), (4, 48, 15, 3, 0, 1, 0), (4, 54, 30, 2, 0, 1, 0), (5, 324, 122, 3, 8, 1, 1), (8, 82, 123, 2, 10, 1, 1), (5, 328, 84, 1, 8, 1, 1),
  (5, 329, 85, 2, 8, 1, 1), (5, 336, 127, 3, 0, 0, 0), (5, 340, 128, 2, 0, 1, 0), (5, 343, 129, 2, 0, 1, 0), (1, 124, 132, 2, 5, 1, 1), (1, 128, 134, 3, 5, 1, 1), (5, 350, 135, 2, 0, 0, 0), (5, 358, 94, 1, 0, 1, 0),
  (1, 131, 137, 3, 5, 1, 1), (5, 354, 15, 3, 0, 1, 0), (1, 134, 139, 3, 5, 1, 1), (1, 137, 141, 3, 4, 1, 1), (1, 149, 142, 4, 7, 1, 1), (1, 153, 150, 2, 7, 1, 1), (7, 70, 143, 4, 7, 0, 1), (7, 57, 144, 2, 7, 0, 1),
  (7, 61, 145, 5, 6, 1, 1), (7, 67, 149, 2, 6, 1, 1), (6, 47, 146, 2, 6, 0, 1), (6, 50, 147, 4, 6, 0, 1), (6, 54, 148, 5, 6, 0, 1), (1, 156, 152, 3, 7, 1, 1), (7, 82, 142, 4, 7, 0, 1), (7, 86, 150, 2, 7, 0, 1),
  (1, 160, 155, 2, 1, 0, 1), (1, 163, 156, 4, 7, 1, 1), (7, 97, 157, 2, 6, 1, 1), (7, 100, 158, 2, 7, 0, 1), (7, 103, 159, 3, 7, 0, 1), (7, 107, 160, 3, 7, 0, 1), (7, 90, 146, 2, 6, 1, 1), (7, 93, 102, 2, 6, 1, 1),
  (1, 167, 162, 4, 7, 1, 1), (1, 170, 164, 3, 7, 1, 1), (7, 116, 162, 4, 7, 0, 1), (1, 175, 166, 2, 7, 1, 1), (7, 119, 167, 2, 6, 1, 1), (11, 98, 170, 3, 0, 0, 0), (11, 212, 173, 1, 11, 0, 1), (11, 215, 180, 1, 11, 0, 1),
  (11, 218, 185, 1, 11, 0, 1), (11, 113, 174, 2, 11, 0, 1), (11, 117, 175, 1, 11, 0, 1), (11, 124, 178, 2, 11, 0, 1), (11, 127, 179, 1, 0, 0, 0), (11, 131, 176, 3, 11, 0, 1), (11, 135, 177, 2, 0, 0, 0), (11, 199, 181, 3, 11, 0, 1),
  (11, 202, 183, 2, 11, 0, 1), (11, 208, 184, 1, 11, 0, 1), (11, 192, 182, 2, 11, 0, 1), (11, 222, 188, 1, 0, 0, 0), (11, 226, 191, 2, 0, 0, 0), (11, 365, 198, 1, 11, 0, 1), (11, 390, 199, 1, 11, 0, 1), (11, 377, 200, 2, 11, 0, 1),
  (11, 432, 201, 2, 11, 0, 1), (11, 414, 202, 2, 11, 0, 1), (11, 383, 203, 3, 11, 0, 1), (11, 417, 205, 1, 11, 0, 1), (11, 420, 206, 2, 11, 0, 1), (11, 423, 227, 1, 11, 0, 1), (11, 426, 228, 2, 11, 0, 1), (11, 300, 204, 2, 11, 0, 1),
  (11, 321, 207, 2, 11, 0, 1), (11, 306, 209, 1, 11, 0, 1), (11, 324, 212, 2, 11, 0, 1), (11, 315, 213, 1, 11, 0, 1), (11, 327, 214, 2, 11, 0, 1), (11, 330, 215, 2, 11, 0, 1), (11, 303, 208, 1, 0, 0, 0), (11, 309, 210, 3, 11, 0, 1),
  (11, 312, 211, 2, 11, 0, 1), (11, 333, 216, 1, 11, 0, 1), (11, 336, 220, 5, 11, 0, 1), (11, 340, 223, 5, 11, 0, 1), (11, 347, 226, 2, 11, 0, 1), (11, 250, 218, 4, 11, 0, 1), (11, 265, 217, 8, 11, 0, 1), (11, 243, 219, 3, 11, 0, 1),
  (11, 269, 221, 1, 11, 0, 1), (11, 258, 222, 2, 0, 0, 0), (11, 350, 224, 7, 11, 0, 1), (11, 354, 225, 6, 11, 0, 1), (11, 386, 229, 2, 11, 0, 1), (11, 368, 230, 1, 11, 0, 1), (11, 393, 231, 2, 11, 0, 1), (11, 371, 232, 1, 11, 0, 1),
  (11, 396, 233, 2, 11, 0, 1), (11, 399, 237, 2, 11, 0, 1), (11, 402, 238, 2, 11, 0, 1), (11, 358, 234, 3, 11, 0, 1), (11, 294, 235, 1, 11, 0, 1), (11, 362, 236, 3, 11, 0, 1), (11, 380, 239, 2, 11, 0, 1), (11, 442, 245, 3, 11, 0, 1),
  (11, 445, 246, 4, 11, 0, 1), (11, 449, 250, 2, 11, 0, 1), (11, 439, 247, 4, 11, 0, 1), (11, 435, 248, 5, 11, 0, 1), (11, 287, 249, 5, 11, 0, 1), (11, 452, 254, 3, 11, 0, 1), (11, 456, 255, 2, 11, 0, 1), (11, 459, 256, 2, 11, 0, 1)]
def pnum (d : String) : Option Nat := (parseMethodDescriptor d).map (fun d => d.parameters.length)
def plainCls (c : String) : Bool := decide (c ≠ "java/lang/invoke/MethodHandle") && decide (c ≠ "java/lang/invoke/VarHandle")
def calP : List (Nat × Nat × Nat × Nat) := [
  (182, 158, 183, 0), (1242, 167, 1243, 0), (505, 158, 506, 507), (1412, 167, 1413, 1414), (515, 158, 516, 517), (1421, 167, 1422, 1423), (519, 158, 520, 521), (1425, 167, 1426, 1427), (754, 158, 755, 756), (1502, 167, 1503, 1504),
  (759, 158, 760, 761), (1507, 167, 1508, 1509), (774, 158, 775, 776), (1514, 167, 1515, 1516), (779, 158, 780, 781), (1519, 167, 1520, 1521), (797, 158, 798, 799), (1526, 167, 1527, 1528), (801, 158, 802, 803), (1530, 167, 1531, 1532),
  (805, 158, 806, 807), (1534, 167, 1535, 1536), (809, 158, 810, 811), (1538, 167, 1539, 1540), (813, 158, 814, 815), (1542, 167, 1543, 1544), (817, 158, 818, 819), (1546, 167, 1547, 1548), (1082, 158, 1083, 1084), (1722, 167, 1723, 1724),
  (1091, 158, 1092, 1093), (1726, 167, 1727, 1728), (1103, 158, 1104, 1105), (1730, 167, 1731, 1732), (1112, 158, 1113, 1114), (1734, 167, 1735, 1736), (1120, 158, 1121, 1122), (1738, 167, 1739, 1740), (1164, 158, 1165, 1166), (1766, 167, 1767, 1768),
  (1174, 158, 1175, 1176), (1770, 167, 1771, 1772), (1178, 158, 1179, 1180), (1774, 167, 1775, 1776), (1209, 158, 1210, 1211), (1790, 167, 1791, 1792), (1217, 158, 1218, 1219), (1794, 167, 1795, 1796), (1226, 158, 1227, 1228), (1798, 167, 1799, 1800),
  (190, 159, 191, 0), (256, 161, 257, 0), (298, 162, 299, 0), (198, 160, 199, 0), (308, 163, 309, 0), (342, 164, 343, 0), (377, 165, 378, 0), (410, 166, 411, 0), (510, 159, 512, 0), (523, 158, 524, 0),
  (529, 159, 531, 1), (685, 158, 687, 18), (700, 159, 702, 21), (526, 158, 527, 0), (533, 160, 535, 2), (541, 159, 543, 4), (549, 159, 551, 6), (562, 159, 564, 7), (681, 160, 683, 17), (537, 160, 539, 3),
  (545, 159, 547, 5), (553, 159, 554, 0), (559, 159, 560, 0), (556, 159, 557, 0), (566, 168, 567, 0), (569, 158, 570, 0), (572, 159, 574, 8), (588, 168, 589, 0), (591, 159, 593, 10), (649, 160, 651, 12),
  (577, 159, 579, 9), (582, 168, 583, 0), (581, 158, 527, 0), (597, 159, 599, 11), (601, 169, 602, 603), (611, 169, 612, 613), (605, 169, 606, 607), (615, 169, 616, 617), (619, 170, 620, 0), (622, 169, 623, 0),
  (627, 171, 628, 0), (661, 160, 663, 13), (671, 160, 673, 15), (677, 160, 679, 16), (665, 160, 667, 14), (689, 158, 691, 19), (693, 161, 695, 20), (706, 177, 707, 0), (710, 178, 711, 0), (713, 178, 714, 0),
  (717, 179, 718, 0), (729, 179, 730, 0), (727, 178, 711, 0), (763, 158, 764, 0), (766, 158, 767, 0), (769, 161, 771, 22), (773, 158, 764, 0), (783, 158, 570, 0), (784, 158, 785, 0), (787, 161, 789, 23),
  (793, 161, 795, 24), (791, 158, 524, 0), (792, 158, 570, 0), (821, 162, 823, 25), (825, 162, 827, 26), (843, 165, 845, 30), (847, 162, 849, 31), (855, 165, 857, 33), (862, 165, 864, 34), (866, 165, 868, 35),
  (878, 162, 880, 38), (1078, 162, 1080, 71), (829, 163, 831, 27), (833, 166, 835, 28), (838, 165, 840, 29), (851, 162, 853, 32), (859, 165, 845, 30), (870, 165, 872, 36), (874, 165, 876, 37), (882, 165, 884, 39),
  (894, 162, 896, 41), (903, 162, 905, 43), (930, 162, 932, 45), (962, 162, 964, 50), (977, 163, 979, 53), (981, 162, 983, 54), (1010, 162, 1012, 60), (1026, 162, 1028, 62), (1041, 162, 1043, 65), (1053, 162, 1055, 68),
  (924, 165, 926, 44), (1059, 162, 1061, 69), (1063, 162, 1065, 70), (886, 165, 888, 40), (891, 168, 589, 0), (898, 166, 900, 42), (907, 165, 888, 40), (908, 168, 909, 0), (919, 168, 920, 0), (922, 168, 589, 0),
  (911, 168, 589, 0), (912, 168, 913, 0), (915, 168, 916, 0), (918, 168, 583, 0), (934, 166, 936, 46), (950, 163, 952, 47), (958, 163, 960, 49), (938, 158, 527, 0), (939, 168, 909, 0), (940, 168, 920, 0),
  (941, 168, 942, 0), (945, 178, 946, 0), (954, 163, 956, 48), (966, 162, 968, 51), (970, 163, 972, 52), (974, 163, 960, 49), (987, 166, 989, 55), (991, 164, 993, 56), (995, 163, 997, 57), (1001, 164, 1003, 58),
  (1006, 166, 1008, 59), (1014, 168, 913, 0), (1015, 168, 1016, 0), (1018, 162, 1020, 61), (1023, 168, 1024, 0), (1022, 161, 789, 23), (1030, 158, 764, 0), (1031, 162, 1033, 63), (1035, 161, 1037, 64), (1039, 158, 527, 0),
  (1040, 168, 583, 0), (1045, 165, 1047, 66), (1049, 177, 1051, 67), (1057, 165, 872, 36), (1058, 165, 876, 37), (1069, 162, 1070, 0), (1072, 168, 1073, 0), (1075, 168, 1076, 0), (1086, 162, 1088, 72), (1095, 162, 1097, 73),
  (1099, 162, 1100, 0), (1102, 168, 916, 0), (1107, 162, 1109, 74), (1111, 158, 527, 0), (1116, 162, 1118, 75), (1124, 161, 1126, 76), (1128, 164, 1130, 77), (1160, 164, 1162, 85), (1132, 164, 1134, 78), (1136, 164, 1138, 79),
  (1140, 163, 1142, 80), (1156, 163, 1158, 84), (1144, 163, 1146, 81), (1148, 163, 1150, 82), (1152, 163, 1154, 83), (1168, 164, 1170, 86), (1172, 164, 1130, 77), (1173, 164, 1162, 85), (1182, 158, 1184, 87), (1186, 164, 1188, 88),
  (1191, 163, 1193, 89), (1195, 164, 1197, 90), (1201, 164, 1203, 91), (1205, 164, 1207, 92), (1199, 163, 1146, 81), (1200, 163, 956, 48), (1213, 164, 1215, 93), (1221, 164, 1223, 94), (1225, 164, 1215, 93), (1231, 164, 1233, 95),
  (1235, 163, 1237, 96), (1416, 167, 1417, 0), (1429, 167, 1431, 97), (1478, 167, 1480, 102), (1498, 167, 1500, 107), (1433, 167, 1435, 98), (1437, 167, 1439, 99), (1448, 167, 1450, 101), (1452, 167, 1453, 0), (1441, 167, 1443, 100),
  (1445, 167, 1446, 0), (1482, 167, 1484, 103), (1490, 167, 1492, 105), (1494, 167, 1496, 106), (1486, 167, 1488, 104), (1511, 167, 1512, 0), (1523, 167, 1524, 0), (1550, 167, 1552, 108), (1554, 167, 1556, 109), (1558, 167, 1560, 110),
  (1562, 167, 1564, 111), (1566, 167, 1568, 112), (1570, 167, 1572, 113), (1578, 167, 1580, 115), (1582, 167, 1584, 116), (1670, 167, 1672, 135), (1674, 167, 1676, 136), (1574, 167, 1576, 114), (1586, 167, 1588, 117), (1593, 167, 1595, 118),
  (1605, 167, 1607, 121), (1609, 167, 1611, 122), (1613, 167, 1615, 123), (1617, 167, 1619, 124), (1590, 167, 1591, 0), (1597, 167, 1599, 119), (1601, 167, 1603, 120), (1621, 167, 1623, 125), (1639, 167, 1641, 129), (1654, 167, 1656, 131),
  (1666, 167, 1668, 134), (1629, 167, 1631, 127), (1625, 167, 1627, 126), (1633, 167, 1635, 128), (1643, 167, 1645, 130), (1649, 167, 1650, 0), (1658, 167, 1660, 132), (1662, 167, 1664, 133), (1678, 167, 1680, 137), (1682, 167, 1684, 138),
  (1686, 167, 1688, 139), (1690, 167, 1692, 140), (1694, 167, 1696, 141), (1710, 167, 1712, 145), (1714, 167, 1716, 146), (1698, 167, 1700, 142), (1702, 167, 1704, 143), (1706, 167, 1708, 144), (1718, 167, 1720, 147), (1742, 167, 1744, 148),
  (1746, 167, 1748, 149), (1762, 167, 1764, 153), (1750, 167, 1752, 150), (1754, 167, 1756, 151), (1758, 167, 1760, 152), (1778, 167, 1780, 154), (1782, 167, 1784, 155), (1786, 167, 1788, 156)]
/-- kind, place of the link, kind of the call -/
def calOk (q : Nat × Nat × Nat × Nat × Nat × Nat × Nat) : Prop := match q with
  | (o, idx, j, n, c, kd, how) => plainCls (mty j).cls = true ∧ Cond.initialized (mty j).cls ∈ gtbl ∧
    ((kd = 0 ∧ Cond.methodLink (onm o) idx (mty j) ∈ gtbl) ∨ (kd = 1 ∧ Cond.methodLinkNest (onm o) idx (mty j) "PageInterpreter" ∈ ntbl)) ∧
    ((how = 0 ∧ c = 0 ∧ pnum (mty j).desc = some n ∧ Cond.static (mty j) ∈ gtbl) ∨
     (how = 1 ∧ 0 < n ∧ pnum (mty j).desc = some (n - 1) ∧ Cond.instanceMethod (mty j) ∈ gtbl ∧ Cond.selects (mty j).cls (mty j) (mty j) ∈ gtbl ∧ ((0 < c ∧ c ≤ 11 ∧ kR (c - 1) = (mty j).cls) ∨ (c = 42 ∧ rR 41 = (mty j).cls))) ∨
     (how = 2 ∧ 0 < n ∧ pnum (mty j).desc = some (n - 1) ∧ Cond.instanceMethod (mty j) ∈ gtbl ∧ (mty j).name = "<init>" ∧ mre j = none ∧ 0 < c ∧ c ≤ 11))
def calC (x : (Nat × Nat × Nat × Nat × Nat × Nat × Nat) × (Nat × Nat × Nat × Nat)) : Bool := match x with
  | ((o, idx, j, n, c, kd, how), (p1, p2, p3, p4)) => plainCls (mty j).cls && mg p2 (.initialized (mty j).cls) &&
    ((Nat.beq kd 0 && mg p1 (.methodLink (onm o) idx (mty j))) || (Nat.beq kd 1 && mn p1 (.methodLinkNest (onm o) idx (mty j) "PageInterpreter"))) &&
    ((Nat.beq how 0 && Nat.beq c 0 && decide (pnum (mty j).desc = some n) && mg p3 (.static (mty j))) ||
     (Nat.beq how 1 && Nat.blt 0 n && decide (pnum (mty j).desc = some (n - 1)) && mg p3 (.instanceMethod (mty j)) && mg p4 (.selects (mty j).cls (mty j) (mty j)) && ((Nat.blt 0 c && Nat.ble c 11 && decide (kR (c - 1) = (mty j).cls)) || (Nat.beq c 42 && decide (rR 41 = (mty j).cls)))) ||
     (Nat.beq how 2 && Nat.blt 0 n && decide (pnum (mty j).desc = some (n - 1)) && mg p3 (.instanceMethod (mty j)) && decide ((mty j).name = "<init>") && decide (mre j = none) && Nat.blt 0 c && Nat.ble c 11))
theorem calL_0 : (((calL.zip calP).drop 0).take 60).all calC = true := by decide +kernel
theorem calL_1 : (((calL.zip calP).drop 60).take 60).all calC = true := by decide +kernel
theorem calL_2 : (((calL.zip calP).drop 120).take 60).all calC = true := by decide +kernel
theorem calL_3 : (((calL.zip calP).drop 180).take 60).all calC = true := by decide +kernel
theorem calL_4 : (((calL.zip calP).drop 240).take 60).all calC = true := by decide +kernel
theorem all_split {α : Type} (f : α → Bool) (n : Nat) (l : List α) (h1 : (l.take n).all f = true) (h2 : (l.drop n).all f = true) : l.all f = true := by
  rw [← List.take_append_drop n l, List.all_append, h1, h2]; rfl
theorem calL_e5 : ((calL.zip calP).drop 300).all calC = true := by decide +kernel
theorem calL_e4 : ((calL.zip calP).drop 240).all calC = true := all_split calC 60 _ calL_4 (by rw [List.drop_drop]; exact calL_e5)
theorem calL_e3 : ((calL.zip calP).drop 180).all calC = true := all_split calC 60 _ calL_3 (by rw [List.drop_drop]; exact calL_e4)
theorem calL_e2 : ((calL.zip calP).drop 120).all calC = true := all_split calC 60 _ calL_2 (by rw [List.drop_drop]; exact calL_e3)
theorem calL_e1 : ((calL.zip calP).drop 60).all calC = true := all_split calC 60 _ calL_1 (by rw [List.drop_drop]; exact calL_e2)
theorem calL_e0 : ((calL.zip calP).drop 0).all calC = true := all_split calC 60 _ calL_0 (by rw [List.drop_drop]; exact calL_e1)
theorem calL_c : (calL.zip calP).all calC = true := calL_e0
theorem calL_ok : ∀ q ∈ calL, calOk q := by
  intro q hq
  obtain ⟨⟨p1, p2, p3, p4⟩, h⟩ := zip_all (by decide +kernel) calL_c q hq
  obtain ⟨o, idx, j, n, c, kd, how⟩ := q
  simp only [calC, Bool.and_eq_true, Bool.or_eq_true, decide_eq_true_eq, Nat.blt_eq, Nat.beq_eq, Nat.ble_eq] at h
  refine ⟨h.1.1.1, mg_ok h.1.1.2, h.1.2.imp (fun k => ⟨k.1, mg_ok k.2⟩) (fun k => ⟨k.1, mn_ok k.2⟩), ?_⟩
  rcases h.2 with (k | k) | k
  · exact Or.inl ⟨k.1.1.1, k.1.1.2, k.1.2, mg_ok k.2⟩
  · refine Or.inr (Or.inl ⟨k.1.1.1.1.1, k.1.1.1.1.2, k.1.1.1.2, mg_ok k.1.1.2, mg_ok k.1.2, k.2.imp (fun z => ⟨z.1.1, z.1.2, z.2⟩) (fun z => z)⟩)
  · exact Or.inr (Or.inr ⟨k.1.1.1.1.1.1.1, k.1.1.1.1.1.1.2, k.1.1.1.1.1.2, mg_ok k.1.1.1.1.2, k.1.1.1.2, k.1.1.2, k.1.2, k.2⟩)
def obiL : List (Nat × Nat) := [(1, 3), (2, 3), (3, 3), (4, 3), (5, 3), (6, 3), (7, 3), (8, 3), (9, 3), (10, 1), (11, 1)]
theorem obiL_ok : obiL.all (fun q => decide (Cond.methodLink (onm q.1) q.2 Lib.objectInit ∈ gtbl)) = true := by decide +kernel
theorem obi_ok : decide (Cond.instanceMethod Lib.objectInit ∈ gtbl) && decide (Cond.code Lib.objectInit ⟨#[0xb1]⟩ 1 none ∈ gtbl) = true := by decide +kernel
def acpL : List (Nat × Nat) := [(4, 38), (17, 150), (9, 30), (5, 240), (7, 51)]
theorem acpL_ok : acpL.all (fun q => decide (Cond.methodLink (onm q.1) q.2 arraycopyName ∈ gtbl)) = true := by decide +kernel
theorem acp_ok : decide (Cond.native arraycopyName ∈ gtbl) && decide (Cond.static arraycopyName ∈ gtbl) && decide (Cond.initialized "java/lang/System" ∈ gtbl) = true := by decide +kernel
/-- the operators' numbers are read by Enum's own method -/
def ordX : MethodName := ⟨"PageInterpreter$Operator", "ordinal", "()I"⟩
def ordY : MethodName := ⟨"java/lang/Enum", "ordinal", "()I"⟩
def ordL : List (Nat × Nat × Nat × Nat × Nat) := [(3, 55, 42, 1, 41), (5, 159, 42, 1, 41)]
theorem ordL_ok : ordL.all (fun q => decide (mty q.2.2.1 = ordY) && Nat.beq q.2.2.2.1 1 && Nat.beq q.2.2.2.2 41 && decide (Cond.methodLink (onm q.1) q.2.1 ordX ∈ gtbl) && decide (Cond.sameMethod ordX.cls "java/lang/Enum" ordX.name ordX.desc ∈ gtbl) && decide (Cond.selects "PageInterpreter$Operator" ordX ordY ∈ gtbl) && decide (Cond.instanceMethod ordY ∈ gtbl) && decide (Cond.initialized "java/lang/Enum" ∈ gtbl)) = true := by decide +kernel
/-! each method, its code in the tables -/
set_option maxRecDepth 100000 in
theorem mc_1 : Cond.code (mty 1) (mby 1) (tab 1).1 (mre 1) ∈ lw_tbl := List.mem_append_right _ (List.mem_of_getElem? (i := 27) rfl)
set_option maxRecDepth 100000 in
theorem mc_2 : Cond.code (mty 2) (mby 2) (tab 2).1 (mre 2) ∈ lw_tbl := List.mem_append_right _ (List.mem_of_getElem? (i := 35) rfl)
set_option maxRecDepth 100000 in
theorem mc_3 : Cond.code (mty 3) (mby 3) (tab 3).1 (mre 3) ∈ lw_tbl := List.mem_append_right _ (List.mem_of_getElem? (i := 43) rfl)
set_option maxRecDepth 100000 in
theorem mc_4 : Cond.code (mty 4) (mby 4) (tab 4).1 (mre 4) ∈ lw_tbl := List.mem_append_right _ (List.mem_of_getElem? (i := 101) rfl)
set_option maxRecDepth 100000 in
theorem mc_5 : Cond.code (mty 5) (mby 5) (tab 5).1 (mre 5) ∈ lw_tbl := List.mem_append_right _ (List.mem_of_getElem? (i := 143) rfl)
set_option maxRecDepth 100000 in
theorem mc_6 : Cond.code (mty 6) (mby 6) (tab 6).1 (mre 6) ∈ lw_tbl := List.mem_append_right _ (List.mem_of_getElem? (i := 153) rfl)
set_option maxRecDepth 100000 in
theorem mc_7 : Cond.code (mty 7) (mby 7) (tab 7).1 (mre 7) ∈ lw_tbl := List.mem_append_right _ (List.mem_of_getElem? (i := 187) rfl)
set_option maxRecDepth 100000 in
theorem mc_8 : Cond.code (mty 8) (mby 8) (tab 8).1 (mre 8) ∈ lw_tbl := List.mem_append_right _ (List.mem_of_getElem? (i := 222) rfl)
set_option maxRecDepth 100000 in
theorem mc_9 : Cond.code (mty 9) (mby 9) (tab 9).1 (mre 9) ∈ lw_tbl := List.mem_append_right _ (List.mem_of_getElem? (i := 255) rfl)
set_option maxRecDepth 100000 in
theorem mc_10 : Cond.code (mty 10) (mby 10) (tab 10).1 (mre 10) ∈ lw_tbl := List.mem_append_right _ (List.mem_of_getElem? (i := 351) rfl)
set_option maxRecDepth 100000 in
theorem mc_11 : Cond.code (mty 11) (mby 11) (tab 11).1 (mre 11) ∈ lw_tbl := List.mem_append_right _ (List.mem_of_getElem? (i := 356) rfl)
set_option maxRecDepth 100000 in
theorem mc_12 : Cond.code (mty 12) (mby 12) (tab 12).1 (mre 12) ∈ lw_tbl := List.mem_append_right _ (List.mem_of_getElem? (i := 361) rfl)
set_option maxRecDepth 100000 in
theorem mc_13 : Cond.code (mty 13) (mby 13) (tab 13).1 (mre 13) ∈ lw_tbl := List.mem_append_right _ (List.mem_of_getElem? (i := 365) rfl)
set_option maxRecDepth 100000 in
theorem mc_14 : Cond.code (mty 14) (mby 14) (tab 14).1 (mre 14) ∈ lw_tbl := List.mem_append_right _ (List.mem_of_getElem? (i := 368) rfl)
set_option maxRecDepth 100000 in
theorem mc_15 : Cond.code (mty 15) (mby 15) (tab 15).1 (mre 15) ∈ lw_tbl := List.mem_append_right _ (List.mem_of_getElem? (i := 371) rfl)
set_option maxRecDepth 100000 in
theorem mc_16 : Cond.code (mty 16) (mby 16) (tab 16).1 (mre 16) ∈ lw_tbl := List.mem_append_right _ (List.mem_of_getElem? (i := 375) rfl)
set_option maxRecDepth 100000 in
theorem mc_17 : Cond.code (mty 17) (mby 17) (tab 17).1 (mre 17) ∈ lw_tbl := List.mem_append_right _ (List.mem_of_getElem? (i := 379) rfl)
set_option maxRecDepth 100000 in
theorem mc_18 : Cond.code (mty 18) (mby 18) (tab 18).1 (mre 18) ∈ lw_tbl := List.mem_append_right _ (List.mem_of_getElem? (i := 383) rfl)
set_option maxRecDepth 100000 in
theorem mc_19 : Cond.code (mty 19) (mby 19) (tab 19).1 (mre 19) ∈ lw_tbl := List.mem_append_right _ (List.mem_of_getElem? (i := 387) rfl)
set_option maxRecDepth 100000 in
theorem mc_20 : Cond.code (mty 20) (mby 20) (tab 20).1 (mre 20) ∈ lw_tbl := List.mem_append_right _ (List.mem_of_getElem? (i := 391) rfl)
set_option maxRecDepth 100000 in
theorem mc_21 : Cond.code (mty 21) (mby 21) (tab 21).1 (mre 21) ∈ lw_tbl := List.mem_append_right _ (List.mem_of_getElem? (i := 395) rfl)
set_option maxRecDepth 100000 in
theorem mc_22 : Cond.code (mty 22) (mby 22) (tab 22).1 (mre 22) ∈ lw_tbl := List.mem_append_right _ (List.mem_of_getElem? (i := 398) rfl)
set_option maxRecDepth 100000 in
theorem mc_23 : Cond.code (mty 23) (mby 23) (tab 23).1 (mre 23) ∈ lw_tbl := List.mem_append_right _ (List.mem_of_getElem? (i := 401) rfl)
set_option maxRecDepth 100000 in
theorem mc_24 : Cond.code (mty 24) (mby 24) (tab 24).1 (mre 24) ∈ lw_tbl := List.mem_append_right _ (List.mem_of_getElem? (i := 404) rfl)
set_option maxRecDepth 100000 in
theorem mc_25 : Cond.code (mty 25) (mby 25) (tab 25).1 (mre 25) ∈ lw_tbl := List.mem_append_right _ (List.mem_of_getElem? (i := 408) rfl)
set_option maxRecDepth 100000 in
theorem mc_26 : Cond.code (mty 26) (mby 26) (tab 26).1 (mre 26) ∈ lw_tbl := List.mem_append_right _ (List.mem_of_getElem? (i := 411) rfl)
set_option maxRecDepth 100000 in
theorem mc_27 : Cond.code (mty 27) (mby 27) (tab 27).1 (mre 27) ∈ lw_tbl := List.mem_append_right _ (List.mem_of_getElem? (i := 414) rfl)
set_option maxRecDepth 100000 in
theorem mc_28 : Cond.code (mty 28) (mby 28) (tab 28).1 (mre 28) ∈ lw_tbl := List.mem_append_right _ (List.mem_of_getElem? (i := 418) rfl)
set_option maxRecDepth 100000 in
theorem mc_29 : Cond.code (mty 29) (mby 29) (tab 29).1 (mre 29) ∈ lw_tbl := List.mem_append_right _ (List.mem_of_getElem? (i := 423) rfl)
set_option maxRecDepth 100000 in
theorem mc_30 : Cond.code (mty 30) (mby 30) (tab 30).1 (mre 30) ∈ lw_tbl := List.mem_append_right _ (List.mem_of_getElem? (i := 427) rfl)
set_option maxRecDepth 100000 in
theorem mc_31 : Cond.code (mty 31) (mby 31) (tab 31).1 (mre 31) ∈ lw_tbl := List.mem_append_right _ (List.mem_of_getElem? (i := 433) rfl)
set_option maxRecDepth 100000 in
theorem mc_32 : Cond.code (mty 32) (mby 32) (tab 32).1 (mre 32) ∈ lw_tbl := List.mem_append_right _ (List.mem_of_getElem? (i := 437) rfl)
set_option maxRecDepth 100000 in
theorem mc_33 : Cond.code (mty 33) (mby 33) (tab 33).1 (mre 33) ∈ lw_tbl := List.mem_append_right _ (List.mem_of_getElem? (i := 443) rfl)
set_option maxRecDepth 100000 in
theorem mc_34 : Cond.code (mty 34) (mby 34) (tab 34).1 (mre 34) ∈ lw_tbl := List.mem_append_right _ (List.mem_of_getElem? (i := 447) rfl)
set_option maxRecDepth 100000 in
theorem mc_35 : Cond.code (mty 35) (mby 35) (tab 35).1 (mre 35) ∈ lw_tbl := List.mem_append_right _ (List.mem_of_getElem? (i := 451) rfl)
set_option maxRecDepth 100000 in
theorem mc_36 : Cond.code (mty 36) (mby 36) (tab 36).1 (mre 36) ∈ lw_tbl := List.mem_append_right _ (List.mem_of_getElem? (i := 457) rfl)
set_option maxRecDepth 100000 in
theorem mc_37 : Cond.code (mty 37) (mby 37) (tab 37).1 (mre 37) ∈ lw_tbl := List.mem_append_right _ (List.mem_of_getElem? (i := 461) rfl)
set_option maxRecDepth 100000 in
theorem mc_38 : Cond.code (mty 38) (mby 38) (tab 38).1 (mre 38) ∈ lw_tbl := List.mem_append_right _ (List.mem_of_getElem? (i := 464) rfl)
set_option maxRecDepth 100000 in
theorem mc_39 : Cond.code (mty 39) (mby 39) (tab 39).1 (mre 39) ∈ lw_tbl := List.mem_append_right _ (List.mem_of_getElem? (i := 467) rfl)
set_option maxRecDepth 100000 in
theorem mc_40 : Cond.code (mty 40) (mby 40) (tab 40).1 (mre 40) ∈ lw_tbl := List.mem_append_right _ (List.mem_of_getElem? (i := 472) rfl)
set_option maxRecDepth 100000 in
theorem mc_41 : Cond.code (mty 41) (mby 41) (tab 41).1 (mre 41) ∈ lw_tbl := List.mem_append_right _ (List.mem_of_getElem? (i := 495) rfl)
set_option maxRecDepth 100000 in
theorem mc_42 : Cond.code (mty 42) (mby 42) (tab 42).1 (mre 42) ∈ lw_tbl := List.mem_append_right _ (List.mem_of_getElem? (i := 503) rfl)
set_option maxRecDepth 100000 in
theorem mc_43 : Cond.code (mty 43) (mby 43) (tab 43).1 (mre 43) ∈ lw_tbl := List.mem_append_right _ (List.mem_of_getElem? (i := 507) rfl)
set_option maxRecDepth 100000 in
theorem mc_44 : Cond.code (mty 44) (mby 44) (tab 44).1 (mre 44) ∈ lw_tbl := List.mem_append_right _ (List.mem_of_getElem? (i := 511) rfl)
set_option maxRecDepth 100000 in
theorem mc_45 : Cond.code (mty 45) (mby 45) (tab 45).1 (mre 45) ∈ lw_tbl := List.mem_append_right _ (List.mem_of_getElem? (i := 517) rfl)
set_option maxRecDepth 100000 in
theorem mc_46 : Cond.code (mty 46) (mby 46) (tab 46).1 (mre 46) ∈ lw_tbl := List.mem_append_right _ (List.mem_of_getElem? (i := 523) rfl)
set_option maxRecDepth 100000 in
theorem mc_47 : Cond.code (mty 47) (mby 47) (tab 47).1 (mre 47) ∈ lw_tbl := List.mem_append_right _ (List.mem_of_getElem? (i := 527) rfl)
set_option maxRecDepth 100000 in
theorem mc_48 : Cond.code (mty 48) (mby 48) (tab 48).1 (mre 48) ∈ lw_tbl := List.mem_append_right _ (List.mem_of_getElem? (i := 531) rfl)
set_option maxRecDepth 100000 in
theorem mc_49 : Cond.code (mty 49) (mby 49) (tab 49).1 (mre 49) ∈ lw_tbl := List.mem_append_right _ (List.mem_of_getElem? (i := 535) rfl)
set_option maxRecDepth 100000 in
theorem mc_50 : Cond.code (mty 50) (mby 50) (tab 50).1 (mre 50) ∈ lw_tbl := List.mem_append_right _ (List.mem_of_getElem? (i := 539) rfl)
set_option maxRecDepth 100000 in
theorem mc_51 : Cond.code (mty 51) (mby 51) (tab 51).1 (mre 51) ∈ lw_tbl := List.mem_append_right _ (List.mem_of_getElem? (i := 546) rfl)
set_option maxRecDepth 100000 in
theorem mc_52 : Cond.code (mty 52) (mby 52) (tab 52).1 (mre 52) ∈ lw_tbl := List.mem_append_right _ (List.mem_of_getElem? (i := 551) rfl)
set_option maxRecDepth 100000 in
theorem mc_53 : Cond.code (mty 53) (mby 53) (tab 53).1 (mre 53) ∈ lw_tbl := List.mem_append_right _ (List.mem_of_getElem? (i := 555) rfl)
set_option maxRecDepth 100000 in
theorem mc_54 : Cond.code (mty 54) (mby 54) (tab 54).1 (mre 54) ∈ lw_tbl := List.mem_append_right _ (List.mem_of_getElem? (i := 558) rfl)
set_option maxRecDepth 100000 in
theorem mc_55 : Cond.code (mty 55) (mby 55) (tab 55).1 (mre 55) ∈ lw_tbl := List.mem_append_right _ (List.mem_of_getElem? (i := 562) rfl)
set_option maxRecDepth 100000 in
theorem mc_56 : Cond.code (mty 56) (mby 56) (tab 56).1 (mre 56) ∈ lw_tbl := List.mem_append_right _ (List.mem_of_getElem? (i := 574) rfl)
set_option maxRecDepth 100000 in
theorem mc_57 : Cond.code (mty 57) (mby 57) (tab 57).1 (mre 57) ∈ lw_tbl := List.mem_append_right _ (List.mem_of_getElem? (i := 600) rfl)
set_option maxRecDepth 100000 in
theorem mc_58 : Cond.code (mty 58) (mby 58) (tab 58).1 (mre 58) ∈ lw_tbl := List.mem_append_right _ (List.mem_of_getElem? (i := 605) rfl)
set_option maxRecDepth 100000 in
theorem mc_59 : Cond.code (mty 59) (mby 59) (tab 59).1 (mre 59) ∈ lw_tbl := List.mem_append_right _ (List.mem_of_getElem? (i := 608) rfl)
set_option maxRecDepth 100000 in
theorem mc_60 : Cond.code (mty 60) (mby 60) (tab 60).1 (mre 60) ∈ lw_tbl := List.mem_append_right _ (List.mem_of_getElem? (i := 611) rfl)
set_option maxRecDepth 100000 in
theorem mc_61 : Cond.code (mty 61) (mby 61) (tab 61).1 (mre 61) ∈ lw_tbl := List.mem_append_right _ (List.mem_of_getElem? (i := 615) rfl)
set_option maxRecDepth 100000 in
theorem mc_62 : Cond.code (mty 62) (mby 62) (tab 62).1 (mre 62) ∈ lw_tbl := List.mem_append_right _ (List.mem_of_getElem? (i := 620) rfl)
set_option maxRecDepth 100000 in
theorem mc_63 : Cond.code (mty 63) (mby 63) (tab 63).1 (mre 63) ∈ lw_tbl := List.mem_append_right _ (List.mem_of_getElem? (i := 625) rfl)
set_option maxRecDepth 100000 in
theorem mc_64 : Cond.code (mty 64) (mby 64) (tab 64).1 (mre 64) ∈ lw_tbl := List.mem_append_right _ (List.mem_of_getElem? (i := 629) rfl)
set_option maxRecDepth 100000 in
theorem mc_65 : Cond.code (mty 65) (mby 65) (tab 65).1 (mre 65) ∈ lw_tbl := List.mem_append_right _ (List.mem_of_getElem? (i := 633) rfl)
set_option maxRecDepth 100000 in
theorem mc_66 : Cond.code (mty 66) (mby 66) (tab 66).1 (mre 66) ∈ lw_tbl := List.mem_append_right _ (List.mem_of_getElem? (i := 639) rfl)
set_option maxRecDepth 100000 in
theorem mc_67 : Cond.code (mty 67) (mby 67) (tab 67).1 (mre 67) ∈ lw_tbl := List.mem_append_right _ (List.mem_of_getElem? (i := 643) rfl)
set_option maxRecDepth 100000 in
theorem mc_68 : Cond.code (mty 68) (mby 68) (tab 68).1 (mre 68) ∈ lw_tbl := List.mem_append_right _ (List.mem_of_getElem? (i := 647) rfl)
set_option maxRecDepth 100000 in
theorem mc_69 : Cond.code (mty 69) (mby 69) (tab 69).1 (mre 69) ∈ lw_tbl := List.mem_append_right _ (List.mem_of_getElem? (i := 651) rfl)
set_option maxRecDepth 100000 in
theorem mc_70 : Cond.code (mty 70) (mby 70) (tab 70).1 (mre 70) ∈ lw_tbl := List.mem_append_right _ (List.mem_of_getElem? (i := 655) rfl)
set_option maxRecDepth 100000 in
theorem mc_71 : Cond.code (mty 71) (mby 71) (tab 71).1 (mre 71) ∈ lw_tbl := List.mem_append_right _ (List.mem_of_getElem? (i := 659) rfl)
set_option maxRecDepth 100000 in
theorem mc_72 : Cond.code (mty 72) (mby 72) (tab 72).1 (mre 72) ∈ lw_tbl := List.mem_append_right _ (List.mem_of_getElem? (i := 663) rfl)
set_option maxRecDepth 100000 in
theorem mc_73 : Cond.code (mty 73) (mby 73) (tab 73).1 (mre 73) ∈ lw_tbl := List.mem_append_right _ (List.mem_of_getElem? (i := 667) rfl)
set_option maxRecDepth 100000 in
theorem mc_74 : Cond.code (mty 74) (mby 74) (tab 74).1 (mre 74) ∈ lw_tbl := List.mem_append_right _ (List.mem_of_getElem? (i := 671) rfl)
set_option maxRecDepth 100000 in
theorem mc_75 : Cond.code (mty 75) (mby 75) (tab 75).1 (mre 75) ∈ lw_tbl := List.mem_append_right _ (List.mem_of_getElem? (i := 675) rfl)
set_option maxRecDepth 100000 in
theorem mc_76 : Cond.code (mty 76) (mby 76) (tab 76).1 (mre 76) ∈ lw_tbl := List.mem_append_right _ (List.mem_of_getElem? (i := 679) rfl)
set_option maxRecDepth 100000 in
theorem mc_77 : Cond.code (mty 77) (mby 77) (tab 77).1 (mre 77) ∈ lw_tbl := List.mem_append_right _ (List.mem_of_getElem? (i := 684) rfl)
set_option maxRecDepth 100000 in
theorem mc_78 : Cond.code (mty 78) (mby 78) (tab 78).1 (mre 78) ∈ lw_tbl := List.mem_append_right _ (List.mem_of_getElem? (i := 689) rfl)
set_option maxRecDepth 100000 in
theorem mc_79 : Cond.code (mty 79) (mby 79) (tab 79).1 (mre 79) ∈ lw_tbl := List.mem_append_right _ (List.mem_of_getElem? (i := 693) rfl)
set_option maxRecDepth 100000 in
theorem mc_80 : Cond.code (mty 80) (mby 80) (tab 80).1 (mre 80) ∈ lw_tbl := List.mem_append_right _ (List.mem_of_getElem? (i := 697) rfl)
set_option maxRecDepth 100000 in
theorem mc_81 : Cond.code (mty 81) (mby 81) (tab 81).1 (mre 81) ∈ lw_tbl := List.mem_append_right _ (List.mem_of_getElem? (i := 701) rfl)
set_option maxRecDepth 100000 in
theorem mc_82 : Cond.code (mty 82) (mby 82) (tab 82).1 (mre 82) ∈ lw_tbl := List.mem_append_right _ (List.mem_of_getElem? (i := 708) rfl)
set_option maxRecDepth 100000 in
theorem mc_83 : Cond.code (mty 83) (mby 83) (tab 83).1 (mre 83) ∈ lw_tbl := List.mem_append_right _ (List.mem_of_getElem? (i := 712) rfl)
set_option maxRecDepth 100000 in
theorem mc_84 : Cond.code (mty 84) (mby 84) (tab 84).1 (mre 84) ∈ lw_tbl := List.mem_append_right _ (List.mem_of_getElem? (i := 716) rfl)
set_option maxRecDepth 100000 in
theorem mc_85 : Cond.code (mty 85) (mby 85) (tab 85).1 (mre 85) ∈ lw_tbl := List.mem_append_right _ (List.mem_of_getElem? (i := 720) rfl)
set_option maxRecDepth 100000 in
theorem mc_86 : Cond.code (mty 86) (mby 86) (tab 86).1 (mre 86) ∈ lw_tbl := List.mem_append_right _ (List.mem_of_getElem? (i := 724) rfl)
set_option maxRecDepth 100000 in
theorem mc_87 : Cond.code (mty 87) (mby 87) (tab 87).1 (mre 87) ∈ lw_tbl := List.mem_append_right _ (List.mem_of_getElem? (i := 728) rfl)
set_option maxRecDepth 100000 in
theorem mc_88 : Cond.code (mty 88) (mby 88) (tab 88).1 (mre 88) ∈ lw_tbl := List.mem_append_right _ (List.mem_of_getElem? (i := 732) rfl)
set_option maxRecDepth 100000 in
theorem mc_89 : Cond.code (mty 89) (mby 89) (tab 89).1 (mre 89) ∈ lw_tbl := List.mem_append_right _ (List.mem_of_getElem? (i := 740) rfl)
set_option maxRecDepth 100000 in
theorem mc_90 : Cond.code (mty 90) (mby 90) (tab 90).1 (mre 90) ∈ lw_tbl := List.mem_append_right _ (List.mem_of_getElem? (i := 744) rfl)
set_option maxRecDepth 100000 in
theorem mc_91 : Cond.code (mty 91) (mby 91) (tab 91).1 (mre 91) ∈ lw_tbl := List.mem_append_right _ (List.mem_of_getElem? (i := 749) rfl)
set_option maxRecDepth 100000 in
theorem mc_92 : Cond.code (mty 92) (mby 92) (tab 92).1 (mre 92) ∈ lw_tbl := List.mem_append_right _ (List.mem_of_getElem? (i := 753) rfl)
set_option maxRecDepth 100000 in
theorem mc_93 : Cond.code (mty 93) (mby 93) (tab 93).1 (mre 93) ∈ lw_tbl := List.mem_append_right _ (List.mem_of_getElem? (i := 757) rfl)
set_option maxRecDepth 100000 in
theorem mc_94 : Cond.code (mty 94) (mby 94) (tab 94).1 (mre 94) ∈ lw_tbl := List.mem_append_right _ (List.mem_of_getElem? (i := 760) rfl)
set_option maxRecDepth 100000 in
theorem mc_95 : Cond.code (mty 95) (mby 95) (tab 95).1 (mre 95) ∈ lw_tbl := List.mem_append_right _ (List.mem_of_getElem? (i := 764) rfl)
set_option maxRecDepth 100000 in
theorem mc_96 : Cond.code (mty 96) (mby 96) (tab 96).1 (mre 96) ∈ lw_tbl := List.mem_append_right _ (List.mem_of_getElem? (i := 770) rfl)
set_option maxRecDepth 100000 in
theorem mc_97 : Cond.code (mty 97) (mby 97) (tab 97).1 (mre 97) ∈ lw_tbl := List.mem_append_right _ (List.mem_of_getElem? (i := 776) rfl)
set_option maxRecDepth 100000 in
theorem mc_98 : Cond.code (mty 98) (mby 98) (tab 98).1 (mre 98) ∈ lw_tbl := List.mem_append_right _ (List.mem_of_getElem? (i := 780) rfl)
set_option maxRecDepth 100000 in
theorem mc_99 : Cond.code (mty 99) (mby 99) (tab 99).1 (mre 99) ∈ lw_tbl := List.mem_append_right _ (List.mem_of_getElem? (i := 786) rfl)
set_option maxRecDepth 100000 in
theorem mc_100 : Cond.code (mty 100) (mby 100) (tab 100).1 (mre 100) ∈ lw_tbl := List.mem_append_right _ (List.mem_of_getElem? (i := 790) rfl)
set_option maxRecDepth 100000 in
theorem mc_101 : Cond.code (mty 101) (mby 101) (tab 101).1 (mre 101) ∈ lw_tbl := List.mem_append_right _ (List.mem_of_getElem? (i := 796) rfl)
set_option maxRecDepth 100000 in
theorem mc_102 : Cond.code (mty 102) (mby 102) (tab 102).1 (mre 102) ∈ lw_tbl := List.mem_append_right _ (List.mem_of_getElem? (i := 800) rfl)
set_option maxRecDepth 100000 in
theorem mc_103 : Cond.code (mty 103) (mby 103) (tab 103).1 (mre 103) ∈ lw_tbl := List.mem_append_right _ (List.mem_of_getElem? (i := 804) rfl)
set_option maxRecDepth 100000 in
theorem mc_104 : Cond.code (mty 104) (mby 104) (tab 104).1 (mre 104) ∈ lw_tbl := List.mem_append_right _ (List.mem_of_getElem? (i := 808) rfl)
set_option maxRecDepth 100000 in
theorem mc_105 : Cond.code (mty 105) (mby 105) (tab 105).1 (mre 105) ∈ lw_tbl := List.mem_append_right _ (List.mem_of_getElem? (i := 812) rfl)
set_option maxRecDepth 100000 in
theorem mc_106 : Cond.code (mty 106) (mby 106) (tab 106).1 (mre 106) ∈ lw_tbl := List.mem_append_right _ (List.mem_of_getElem? (i := 816) rfl)
set_option maxRecDepth 100000 in
theorem mc_107 : Cond.code (mty 107) (mby 107) (tab 107).1 (mre 107) ∈ lw_tbl := List.mem_append_right _ (List.mem_of_getElem? (i := 823) rfl)
set_option maxRecDepth 100000 in
theorem mc_108 : Cond.code (mty 108) (mby 108) (tab 108).1 (mre 108) ∈ lw_tbl := List.mem_append_right _ (List.mem_of_getElem? (i := 827) rfl)
set_option maxRecDepth 100000 in
theorem mc_109 : Cond.code (mty 109) (mby 109) (tab 109).1 (mre 109) ∈ lw_tbl := List.mem_append_right _ (List.mem_of_getElem? (i := 833) rfl)
set_option maxRecDepth 100000 in
theorem mc_110 : Cond.code (mty 110) (mby 110) (tab 110).1 (mre 110) ∈ lw_tbl := List.mem_append_right _ (List.mem_of_getElem? (i := 837) rfl)
set_option maxRecDepth 100000 in
theorem mc_111 : Cond.code (mty 111) (mby 111) (tab 111).1 (mre 111) ∈ lw_tbl := List.mem_append_right _ (List.mem_of_getElem? (i := 841) rfl)
set_option maxRecDepth 100000 in
theorem mc_112 : Cond.code (mty 112) (mby 112) (tab 112).1 (mre 112) ∈ lw_tbl := List.mem_append_right _ (List.mem_of_getElem? (i := 847) rfl)
set_option maxRecDepth 100000 in
theorem mc_113 : Cond.code (mty 113) (mby 113) (tab 113).1 (mre 113) ∈ lw_tbl := List.mem_append_right _ (List.mem_of_getElem? (i := 852) rfl)
set_option maxRecDepth 100000 in
theorem mc_114 : Cond.code (mty 114) (mby 114) (tab 114).1 (mre 114) ∈ lw_tbl := List.mem_append_right _ (List.mem_of_getElem? (i := 856) rfl)
set_option maxRecDepth 100000 in
theorem mc_115 : Cond.code (mty 115) (mby 115) (tab 115).1 (mre 115) ∈ lw_tbl := List.mem_append_right _ (List.mem_of_getElem? (i := 860) rfl)
set_option maxRecDepth 100000 in
theorem mc_116 : Cond.code (mty 116) (mby 116) (tab 116).1 (mre 116) ∈ lw_tbl := List.mem_append_right _ (List.mem_of_getElem? (i := 864) rfl)
set_option maxRecDepth 100000 in
theorem mc_117 : Cond.code (mty 117) (mby 117) (tab 117).1 (mre 117) ∈ lw_tbl := List.mem_append_right _ (List.mem_of_getElem? (i := 868) rfl)
set_option maxRecDepth 100000 in
theorem mc_118 : Cond.code (mty 118) (mby 118) (tab 118).1 (mre 118) ∈ lw_tbl := List.mem_append_right _ (List.mem_of_getElem? (i := 872) rfl)
set_option maxRecDepth 100000 in
theorem mc_119 : Cond.code (mty 119) (mby 119) (tab 119).1 (mre 119) ∈ lw_tbl := List.mem_append_right _ (List.mem_of_getElem? (i := 877) rfl)
set_option maxRecDepth 100000 in
theorem mc_120 : Cond.code (mty 120) (mby 120) (tab 120).1 (mre 120) ∈ lw_tbl := List.mem_append_right _ (List.mem_of_getElem? (i := 881) rfl)
set_option maxRecDepth 100000 in
theorem mc_121 : Cond.code (mty 121) (mby 121) (tab 121).1 (mre 121) ∈ lw_tbl := List.mem_append_right _ (List.mem_of_getElem? (i := 887) rfl)
set_option maxRecDepth 100000 in
theorem mc_122 : Cond.code (mty 122) (mby 122) (tab 122).1 (mre 122) ∈ lw_tbl := List.mem_append_right _ (List.mem_of_getElem? (i := 891) rfl)
set_option maxRecDepth 100000 in
theorem mc_123 : Cond.code (mty 123) (mby 123) (tab 123).1 (mre 123) ∈ lw_tbl := List.mem_append_right _ (List.mem_of_getElem? (i := 895) rfl)
set_option maxRecDepth 100000 in
theorem mc_124 : Cond.code (mty 124) (mby 124) (tab 124).1 (mre 124) ∈ lw_tbl := List.mem_append_right _ (List.mem_of_getElem? (i := 899) rfl)
set_option maxRecDepth 100000 in
theorem mc_125 : Cond.code (mty 125) (mby 125) (tab 125).1 (mre 125) ∈ lw_tbl := List.mem_append_right _ (List.mem_of_getElem? (i := 905) rfl)
set_option maxRecDepth 100000 in
theorem mc_126 : Cond.code (mty 126) (mby 126) (tab 126).1 (mre 126) ∈ lw_tbl := List.mem_append_right _ (List.mem_of_getElem? (i := 909) rfl)
set_option maxRecDepth 100000 in
theorem mc_127 : Cond.code (mty 127) (mby 127) (tab 127).1 (mre 127) ∈ lw_tbl := List.mem_append_right _ (List.mem_of_getElem? (i := 914) rfl)
set_option maxRecDepth 100000 in
theorem mc_128 : Cond.code (mty 128) (mby 128) (tab 128).1 (mre 128) ∈ lw_tbl := List.mem_append_right _ (List.mem_of_getElem? (i := 917) rfl)
set_option maxRecDepth 100000 in
theorem mc_129 : Cond.code (mty 129) (mby 129) (tab 129).1 (mre 129) ∈ lw_tbl := List.mem_append_right _ (List.mem_of_getElem? (i := 920) rfl)
set_option maxRecDepth 100000 in
theorem mc_130 : Cond.code (mty 130) (mby 130) (tab 130).1 (mre 130) ∈ lw_tbl := List.mem_append_right _ (List.mem_of_getElem? (i := 924) rfl)
set_option maxRecDepth 100000 in
theorem mc_131 : Cond.code (mty 131) (mby 131) (tab 131).1 (mre 131) ∈ lw_tbl := List.mem_append_right _ (List.mem_of_getElem? (i := 928) rfl)
set_option maxRecDepth 100000 in
theorem mc_132 : Cond.code (mty 132) (mby 132) (tab 132).1 (mre 132) ∈ lw_tbl := List.mem_append_right _ (List.mem_of_getElem? (i := 932) rfl)
set_option maxRecDepth 100000 in
theorem mc_133 : Cond.code (mty 133) (mby 133) (tab 133).1 (mre 133) ∈ lw_tbl := List.mem_append_right _ (List.mem_of_getElem? (i := 937) rfl)
set_option maxRecDepth 100000 in
theorem mc_134 : Cond.code (mty 134) (mby 134) (tab 134).1 (mre 134) ∈ lw_tbl := List.mem_append_right _ (List.mem_of_getElem? (i := 941) rfl)
set_option maxRecDepth 100000 in
theorem mc_135 : Cond.code (mty 135) (mby 135) (tab 135).1 (mre 135) ∈ lw_tbl := List.mem_append_right _ (List.mem_of_getElem? (i := 944) rfl)
set_option maxRecDepth 100000 in
theorem mc_136 : Cond.code (mty 136) (mby 136) (tab 136).1 (mre 136) ∈ lw_tbl := List.mem_append_right _ (List.mem_of_getElem? (i := 949) rfl)
set_option maxRecDepth 100000 in
theorem mc_137 : Cond.code (mty 137) (mby 137) (tab 137).1 (mre 137) ∈ lw_tbl := List.mem_append_right _ (List.mem_of_getElem? (i := 953) rfl)
set_option maxRecDepth 100000 in
theorem mc_138 : Cond.code (mty 138) (mby 138) (tab 138).1 (mre 138) ∈ lw_tbl := List.mem_append_right _ (List.mem_of_getElem? (i := 958) rfl)
set_option maxRecDepth 100000 in
theorem mc_139 : Cond.code (mty 139) (mby 139) (tab 139).1 (mre 139) ∈ lw_tbl := List.mem_append_right _ (List.mem_of_getElem? (i := 962) rfl)
set_option maxRecDepth 100000 in
theorem mc_140 : Cond.code (mty 140) (mby 140) (tab 140).1 (mre 140) ∈ lw_tbl := List.mem_append_right _ (List.mem_of_getElem? (i := 966) rfl)
set_option maxRecDepth 100000 in
theorem mc_141 : Cond.code (mty 141) (mby 141) (tab 141).1 (mre 141) ∈ lw_tbl := List.mem_append_right _ (List.mem_of_getElem? (i := 970) rfl)
set_option maxRecDepth 100000 in
theorem mc_142 : Cond.code (mty 142) (mby 142) (tab 142).1 (mre 142) ∈ lw_tbl := List.mem_append_right _ (List.mem_of_getElem? (i := 974) rfl)
set_option maxRecDepth 100000 in
theorem mc_143 : Cond.code (mty 143) (mby 143) (tab 143).1 (mre 143) ∈ lw_tbl := List.mem_append_right _ (List.mem_of_getElem? (i := 978) rfl)
set_option maxRecDepth 100000 in
theorem mc_144 : Cond.code (mty 144) (mby 144) (tab 144).1 (mre 144) ∈ lw_tbl := List.mem_append_right _ (List.mem_of_getElem? (i := 982) rfl)
set_option maxRecDepth 100000 in
theorem mc_145 : Cond.code (mty 145) (mby 145) (tab 145).1 (mre 145) ∈ lw_tbl := List.mem_append_right _ (List.mem_of_getElem? (i := 986) rfl)
set_option maxRecDepth 100000 in
theorem mc_146 : Cond.code (mty 146) (mby 146) (tab 146).1 (mre 146) ∈ lw_tbl := List.mem_append_right _ (List.mem_of_getElem? (i := 990) rfl)
set_option maxRecDepth 100000 in
theorem mc_147 : Cond.code (mty 147) (mby 147) (tab 147).1 (mre 147) ∈ lw_tbl := List.mem_append_right _ (List.mem_of_getElem? (i := 994) rfl)
set_option maxRecDepth 100000 in
theorem mc_148 : Cond.code (mty 148) (mby 148) (tab 148).1 (mre 148) ∈ lw_tbl := List.mem_append_right _ (List.mem_of_getElem? (i := 998) rfl)
set_option maxRecDepth 100000 in
theorem mc_149 : Cond.code (mty 149) (mby 149) (tab 149).1 (mre 149) ∈ lw_tbl := List.mem_append_right _ (List.mem_of_getElem? (i := 1002) rfl)
set_option maxRecDepth 100000 in
theorem mc_150 : Cond.code (mty 150) (mby 150) (tab 150).1 (mre 150) ∈ lw_tbl := List.mem_append_right _ (List.mem_of_getElem? (i := 1006) rfl)
set_option maxRecDepth 100000 in
theorem mc_151 : Cond.code (mty 151) (mby 151) (tab 151).1 (mre 151) ∈ lw_tbl := List.mem_append_right _ (List.mem_of_getElem? (i := 1010) rfl)
set_option maxRecDepth 100000 in
theorem mc_152 : Cond.code (mty 152) (mby 152) (tab 152).1 (mre 152) ∈ lw_tbl := List.mem_append_right _ (List.mem_of_getElem? (i := 1014) rfl)
set_option maxRecDepth 100000 in
theorem mc_153 : Cond.code (mty 153) (mby 153) (tab 153).1 (mre 153) ∈ lw_tbl := List.mem_append_right _ (List.mem_of_getElem? (i := 1020) rfl)
set_option maxRecDepth 100000 in
theorem mc_154 : Cond.code (mty 154) (mby 154) (tab 154).1 (mre 154) ∈ lw_tbl := List.mem_append_right _ (List.mem_of_getElem? (i := 1024) rfl)
set_option maxRecDepth 100000 in
theorem mc_155 : Cond.code (mty 155) (mby 155) (tab 155).1 (mre 155) ∈ lw_tbl := List.mem_append_right _ (List.mem_of_getElem? (i := 1028) rfl)
set_option maxRecDepth 100000 in
theorem mc_156 : Cond.code (mty 156) (mby 156) (tab 156).1 (mre 156) ∈ lw_tbl := List.mem_append_right _ (List.mem_of_getElem? (i := 1032) rfl)
set_option maxRecDepth 100000 in
theorem mc_157 : Cond.code (mty 157) (mby 157) (tab 157).1 (mre 157) ∈ lw_tbl := List.mem_append_right _ (List.mem_of_getElem? (i := 1037) rfl)
set_option maxRecDepth 100000 in
theorem mc_158 : Cond.code (mty 158) (mby 158) (tab 158).1 (mre 158) ∈ lw_tbl := List.mem_append_right _ (List.mem_of_getElem? (i := 1041) rfl)
set_option maxRecDepth 100000 in
theorem mc_159 : Cond.code (mty 159) (mby 159) (tab 159).1 (mre 159) ∈ lw_tbl := List.mem_append_right _ (List.mem_of_getElem? (i := 1047) rfl)
set_option maxRecDepth 100000 in
theorem mc_160 : Cond.code (mty 160) (mby 160) (tab 160).1 (mre 160) ∈ lw_tbl := List.mem_append_right _ (List.mem_of_getElem? (i := 1051) rfl)
set_option maxRecDepth 100000 in
theorem mc_161 : Cond.code (mty 161) (mby 161) (tab 161).1 (mre 161) ∈ lw_tbl := List.mem_append_right _ (List.mem_of_getElem? (i := 1055) rfl)
set_option maxRecDepth 100000 in
theorem mc_162 : Cond.code (mty 162) (mby 162) (tab 162).1 (mre 162) ∈ lw_tbl := List.mem_append_right _ (List.mem_of_getElem? (i := 1059) rfl)
set_option maxRecDepth 100000 in
theorem mc_163 : Cond.code (mty 163) (mby 163) (tab 163).1 (mre 163) ∈ lw_tbl := List.mem_append_right _ (List.mem_of_getElem? (i := 1063) rfl)
set_option maxRecDepth 100000 in
theorem mc_164 : Cond.code (mty 164) (mby 164) (tab 164).1 (mre 164) ∈ lw_tbl := List.mem_append_right _ (List.mem_of_getElem? (i := 1067) rfl)
set_option maxRecDepth 100000 in
theorem mc_165 : Cond.code (mty 165) (mby 165) (tab 165).1 (mre 165) ∈ lw_tbl := List.mem_append_right _ (List.mem_of_getElem? (i := 1072) rfl)
set_option maxRecDepth 100000 in
theorem mc_166 : Cond.code (mty 166) (mby 166) (tab 166).1 (mre 166) ∈ lw_tbl := List.mem_append_right _ (List.mem_of_getElem? (i := 1077) rfl)
set_option maxRecDepth 100000 in
theorem mc_167 : Cond.code (mty 167) (mby 167) (tab 167).1 (mre 167) ∈ lw_tbl := List.mem_append_right _ (List.mem_of_getElem? (i := 1081) rfl)
set_option maxRecDepth 100000 in
theorem mc_168 : Cond.code (mty 168) (mby 168) (tab 168).1 (mre 168) ∈ lw_tbl := List.mem_append_right _ (List.mem_of_getElem? (i := 1087) rfl)
set_option maxRecDepth 100000 in
theorem mc_169 : Cond.code (mty 169) (mby 169) (tab 169).1 (mre 169) ∈ lw_tbl := List.mem_append_right _ (List.mem_of_getElem? (i := 1258) rfl)
set_option maxRecDepth 100000 in
theorem mc_170 : Cond.code (mty 170) (mby 170) (tab 170).1 (mre 170) ∈ lw_tbl := List.mem_append_right _ (List.mem_of_getElem? (i := 1261) rfl)
set_option maxRecDepth 100000 in
theorem mc_171 : Cond.code (mty 171) (mby 171) (tab 171).1 (mre 171) ∈ lw_tbl := List.mem_append_right _ (List.mem_of_getElem? (i := 1267) rfl)
set_option maxRecDepth 100000 in
theorem mc_172 : Cond.code (mty 172) (mby 172) (tab 172).1 (mre 172) ∈ lw_tbl := List.mem_append_right _ (List.mem_of_getElem? (i := 1271) rfl)
set_option maxRecDepth 100000 in
theorem mc_173 : Cond.code (mty 173) (mby 173) (tab 173).1 (mre 173) ∈ lw_tbl := List.mem_append_right _ (List.mem_of_getElem? (i := 1275) rfl)
set_option maxRecDepth 100000 in
theorem mc_174 : Cond.code (mty 174) (mby 174) (tab 174).1 (mre 174) ∈ lw_tbl := List.mem_append_right _ (List.mem_of_getElem? (i := 1279) rfl)
set_option maxRecDepth 100000 in
theorem mc_175 : Cond.code (mty 175) (mby 175) (tab 175).1 (mre 175) ∈ lw_tbl := List.mem_append_right _ (List.mem_of_getElem? (i := 1283) rfl)
set_option maxRecDepth 100000 in
theorem mc_176 : Cond.code (mty 176) (mby 176) (tab 176).1 (mre 176) ∈ lw_tbl := List.mem_append_right _ (List.mem_of_getElem? (i := 1287) rfl)
set_option maxRecDepth 100000 in
theorem mc_177 : Cond.code (mty 177) (mby 177) (tab 177).1 (mre 177) ∈ lw_tbl := List.mem_append_right _ (List.mem_of_getElem? (i := 1290) rfl)
set_option maxRecDepth 100000 in
theorem mc_178 : Cond.code (mty 178) (mby 178) (tab 178).1 (mre 178) ∈ lw_tbl := List.mem_append_right _ (List.mem_of_getElem? (i := 1294) rfl)
set_option maxRecDepth 100000 in
theorem mc_179 : Cond.code (mty 179) (mby 179) (tab 179).1 (mre 179) ∈ lw_tbl := List.mem_append_right _ (List.mem_of_getElem? (i := 1297) rfl)
set_option maxRecDepth 100000 in
theorem mc_180 : Cond.code (mty 180) (mby 180) (tab 180).1 (mre 180) ∈ lw_tbl := List.mem_append_right _ (List.mem_of_getElem? (i := 1324) rfl)
set_option maxRecDepth 100000 in
theorem mc_181 : Cond.code (mty 181) (mby 181) (tab 181).1 (mre 181) ∈ lw_tbl := List.mem_append_right _ (List.mem_of_getElem? (i := 1328) rfl)
set_option maxRecDepth 100000 in
theorem mc_182 : Cond.code (mty 182) (mby 182) (tab 182).1 (mre 182) ∈ lw_tbl := List.mem_append_right _ (List.mem_of_getElem? (i := 1332) rfl)
set_option maxRecDepth 100000 in
theorem mc_183 : Cond.code (mty 183) (mby 183) (tab 183).1 (mre 183) ∈ lw_tbl := List.mem_append_right _ (List.mem_of_getElem? (i := 1336) rfl)
set_option maxRecDepth 100000 in
theorem mc_184 : Cond.code (mty 184) (mby 184) (tab 184).1 (mre 184) ∈ lw_tbl := List.mem_append_right _ (List.mem_of_getElem? (i := 1340) rfl)
set_option maxRecDepth 100000 in
theorem mc_185 : Cond.code (mty 185) (mby 185) (tab 185).1 (mre 185) ∈ lw_tbl := List.mem_append_right _ (List.mem_of_getElem? (i := 1344) rfl)
set_option maxRecDepth 100000 in
theorem mc_186 : Cond.code (mty 186) (mby 186) (tab 186).1 (mre 186) ∈ lw_tbl := List.mem_append_right _ (List.mem_of_getElem? (i := 1348) rfl)
set_option maxRecDepth 100000 in
theorem mc_187 : Cond.code (mty 187) (mby 187) (tab 187).1 (mre 187) ∈ lw_tbl := List.mem_append_right _ (List.mem_of_getElem? (i := 1353) rfl)
set_option maxRecDepth 100000 in
theorem mc_188 : Cond.code (mty 188) (mby 188) (tab 188).1 (mre 188) ∈ lw_tbl := List.mem_append_right _ (List.mem_of_getElem? (i := 1356) rfl)
set_option maxRecDepth 100000 in
theorem mc_189 : Cond.code (mty 189) (mby 189) (tab 189).1 (mre 189) ∈ lw_tbl := List.mem_append_right _ (List.mem_of_getElem? (i := 1360) rfl)
set_option maxRecDepth 100000 in
theorem mc_190 : Cond.code (mty 190) (mby 190) (tab 190).1 (mre 190) ∈ lw_tbl := List.mem_append_right _ (List.mem_of_getElem? (i := 1365) rfl)
set_option maxRecDepth 100000 in
theorem mc_191 : Cond.code (mty 191) (mby 191) (tab 191).1 (mre 191) ∈ lw_tbl := List.mem_append_right _ (List.mem_of_getElem? (i := 1368) rfl)
set_option maxRecDepth 100000 in
theorem mc_192 : Cond.code (mty 192) (mby 192) (tab 192).1 (mre 192) ∈ lw_tbl := List.mem_append_right _ (List.mem_of_getElem? (i := 1372) rfl)
set_option maxRecDepth 100000 in
theorem mc_193 : Cond.code (mty 193) (mby 193) (tab 193).1 (mre 193) ∈ lw_tbl := List.mem_append_right _ (List.mem_of_getElem? (i := 1376) rfl)
set_option maxRecDepth 100000 in
theorem mc_194 : Cond.code (mty 194) (mby 194) (tab 194).1 (mre 194) ∈ lw_tbl := List.mem_append_right _ (List.mem_of_getElem? (i := 1380) rfl)
set_option maxRecDepth 100000 in
theorem mc_195 : Cond.code (mty 195) (mby 195) (tab 195).1 (mre 195) ∈ lw_tbl := List.mem_append_right _ (List.mem_of_getElem? (i := 1384) rfl)
set_option maxRecDepth 100000 in
theorem mc_196 : Cond.code (mty 196) (mby 196) (tab 196).1 (mre 196) ∈ lw_tbl := List.mem_append_right _ (List.mem_of_getElem? (i := 1388) rfl)
set_option maxRecDepth 100000 in
theorem mc_197 : Cond.code (mty 197) (mby 197) (tab 197).1 (mre 197) ∈ lw_tbl := List.mem_append_right _ (List.mem_of_getElem? (i := 1392) rfl)
set_option maxRecDepth 100000 in
theorem mc_198 : Cond.code (mty 198) (mby 198) (tab 198).1 (mre 198) ∈ lw_tbl := List.mem_append_right _ (List.mem_of_getElem? (i := 1396) rfl)
set_option maxRecDepth 100000 in
theorem mc_199 : Cond.code (mty 199) (mby 199) (tab 199).1 (mre 199) ∈ lw_tbl := List.mem_append_right _ (List.mem_of_getElem? (i := 1400) rfl)
set_option maxRecDepth 100000 in
theorem mc_200 : Cond.code (mty 200) (mby 200) (tab 200).1 (mre 200) ∈ lw_tbl := List.mem_append_right _ (List.mem_of_getElem? (i := 1404) rfl)
set_option maxRecDepth 100000 in
theorem mc_201 : Cond.code (mty 201) (mby 201) (tab 201).1 (mre 201) ∈ lw_tbl := List.mem_append_right _ (List.mem_of_getElem? (i := 1408) rfl)
set_option maxRecDepth 100000 in
theorem mc_202 : Cond.code (mty 202) (mby 202) (tab 202).1 (mre 202) ∈ lw_tbl := List.mem_append_right _ (List.mem_of_getElem? (i := 1412) rfl)
set_option maxRecDepth 100000 in
theorem mc_203 : Cond.code (mty 203) (mby 203) (tab 203).1 (mre 203) ∈ lw_tbl := List.mem_append_right _ (List.mem_of_getElem? (i := 1416) rfl)
set_option maxRecDepth 100000 in
theorem mc_204 : Cond.code (mty 204) (mby 204) (tab 204).1 (mre 204) ∈ lw_tbl := List.mem_append_right _ (List.mem_of_getElem? (i := 1420) rfl)
set_option maxRecDepth 100000 in
theorem mc_205 : Cond.code (mty 205) (mby 205) (tab 205).1 (mre 205) ∈ lw_tbl := List.mem_append_right _ (List.mem_of_getElem? (i := 1424) rfl)
set_option maxRecDepth 100000 in
theorem mc_206 : Cond.code (mty 206) (mby 206) (tab 206).1 (mre 206) ∈ lw_tbl := List.mem_append_right _ (List.mem_of_getElem? (i := 1428) rfl)
set_option maxRecDepth 100000 in
theorem mc_207 : Cond.code (mty 207) (mby 207) (tab 207).1 (mre 207) ∈ lw_tbl := List.mem_append_right _ (List.mem_of_getElem? (i := 1432) rfl)
set_option maxRecDepth 100000 in
theorem mc_208 : Cond.code (mty 208) (mby 208) (tab 208).1 (mre 208) ∈ lw_tbl := List.mem_append_right _ (List.mem_of_getElem? (i := 1435) rfl)
set_option maxRecDepth 100000 in
theorem mc_209 : Cond.code (mty 209) (mby 209) (tab 209).1 (mre 209) ∈ lw_tbl := List.mem_append_right _ (List.mem_of_getElem? (i := 1439) rfl)
set_option maxRecDepth 100000 in
theorem mc_210 : Cond.code (mty 210) (mby 210) (tab 210).1 (mre 210) ∈ lw_tbl := List.mem_append_right _ (List.mem_of_getElem? (i := 1443) rfl)
set_option maxRecDepth 100000 in
theorem mc_211 : Cond.code (mty 211) (mby 211) (tab 211).1 (mre 211) ∈ lw_tbl := List.mem_append_right _ (List.mem_of_getElem? (i := 1447) rfl)
set_option maxRecDepth 100000 in
theorem mc_212 : Cond.code (mty 212) (mby 212) (tab 212).1 (mre 212) ∈ lw_tbl := List.mem_append_right _ (List.mem_of_getElem? (i := 1451) rfl)
set_option maxRecDepth 100000 in
theorem mc_213 : Cond.code (mty 213) (mby 213) (tab 213).1 (mre 213) ∈ lw_tbl := List.mem_append_right _ (List.mem_of_getElem? (i := 1455) rfl)
set_option maxRecDepth 100000 in
theorem mc_214 : Cond.code (mty 214) (mby 214) (tab 214).1 (mre 214) ∈ lw_tbl := List.mem_append_right _ (List.mem_of_getElem? (i := 1459) rfl)
set_option maxRecDepth 100000 in
theorem mc_215 : Cond.code (mty 215) (mby 215) (tab 215).1 (mre 215) ∈ lw_tbl := List.mem_append_right _ (List.mem_of_getElem? (i := 1463) rfl)
set_option maxRecDepth 100000 in
theorem mc_216 : Cond.code (mty 216) (mby 216) (tab 216).1 (mre 216) ∈ lw_tbl := List.mem_append_right _ (List.mem_of_getElem? (i := 1467) rfl)
set_option maxRecDepth 100000 in
theorem mc_217 : Cond.code (mty 217) (mby 217) (tab 217).1 (mre 217) ∈ lw_tbl := List.mem_append_right _ (List.mem_of_getElem? (i := 1471) rfl)
set_option maxRecDepth 100000 in
theorem mc_218 : Cond.code (mty 218) (mby 218) (tab 218).1 (mre 218) ∈ lw_tbl := List.mem_append_right _ (List.mem_of_getElem? (i := 1475) rfl)
set_option maxRecDepth 100000 in
theorem mc_219 : Cond.code (mty 219) (mby 219) (tab 219).1 (mre 219) ∈ lw_tbl := List.mem_append_right _ (List.mem_of_getElem? (i := 1479) rfl)
set_option maxRecDepth 100000 in
theorem mc_220 : Cond.code (mty 220) (mby 220) (tab 220).1 (mre 220) ∈ lw_tbl := List.mem_append_right _ (List.mem_of_getElem? (i := 1485) rfl)
set_option maxRecDepth 100000 in
theorem mc_221 : Cond.code (mty 221) (mby 221) (tab 221).1 (mre 221) ∈ lw_tbl := List.mem_append_right _ (List.mem_of_getElem? (i := 1489) rfl)
set_option maxRecDepth 100000 in
theorem mc_222 : Cond.code (mty 222) (mby 222) (tab 222).1 (mre 222) ∈ lw_tbl := List.mem_append_right _ (List.mem_of_getElem? (i := 1494) rfl)
set_option maxRecDepth 100000 in
theorem mc_223 : Cond.code (mty 223) (mby 223) (tab 223).1 (mre 223) ∈ lw_tbl := List.mem_append_right _ (List.mem_of_getElem? (i := 1500) rfl)
set_option maxRecDepth 100000 in
theorem mc_224 : Cond.code (mty 224) (mby 224) (tab 224).1 (mre 224) ∈ lw_tbl := List.mem_append_right _ (List.mem_of_getElem? (i := 1504) rfl)
set_option maxRecDepth 100000 in
theorem mc_225 : Cond.code (mty 225) (mby 225) (tab 225).1 (mre 225) ∈ lw_tbl := List.mem_append_right _ (List.mem_of_getElem? (i := 1508) rfl)
set_option maxRecDepth 100000 in
theorem mc_226 : Cond.code (mty 226) (mby 226) (tab 226).1 (mre 226) ∈ lw_tbl := List.mem_append_right _ (List.mem_of_getElem? (i := 1512) rfl)
set_option maxRecDepth 100000 in
theorem mc_227 : Cond.code (mty 227) (mby 227) (tab 227).1 (mre 227) ∈ lw_tbl := List.mem_append_right _ (List.mem_of_getElem? (i := 1516) rfl)
set_option maxRecDepth 100000 in
theorem mc_228 : Cond.code (mty 228) (mby 228) (tab 228).1 (mre 228) ∈ lw_tbl := List.mem_append_right _ (List.mem_of_getElem? (i := 1520) rfl)
set_option maxRecDepth 100000 in
theorem mc_229 : Cond.code (mty 229) (mby 229) (tab 229).1 (mre 229) ∈ lw_tbl := List.mem_append_right _ (List.mem_of_getElem? (i := 1524) rfl)
set_option maxRecDepth 100000 in
theorem mc_230 : Cond.code (mty 230) (mby 230) (tab 230).1 (mre 230) ∈ lw_tbl := List.mem_append_right _ (List.mem_of_getElem? (i := 1528) rfl)
set_option maxRecDepth 100000 in
theorem mc_231 : Cond.code (mty 231) (mby 231) (tab 231).1 (mre 231) ∈ lw_tbl := List.mem_append_right _ (List.mem_of_getElem? (i := 1532) rfl)
set_option maxRecDepth 100000 in
theorem mc_232 : Cond.code (mty 232) (mby 232) (tab 232).1 (mre 232) ∈ lw_tbl := List.mem_append_right _ (List.mem_of_getElem? (i := 1536) rfl)
set_option maxRecDepth 100000 in
theorem mc_233 : Cond.code (mty 233) (mby 233) (tab 233).1 (mre 233) ∈ lw_tbl := List.mem_append_right _ (List.mem_of_getElem? (i := 1540) rfl)
set_option maxRecDepth 100000 in
theorem mc_234 : Cond.code (mty 234) (mby 234) (tab 234).1 (mre 234) ∈ lw_tbl := List.mem_append_right _ (List.mem_of_getElem? (i := 1544) rfl)
set_option maxRecDepth 100000 in
theorem mc_235 : Cond.code (mty 235) (mby 235) (tab 235).1 (mre 235) ∈ lw_tbl := List.mem_append_right _ (List.mem_of_getElem? (i := 1548) rfl)
set_option maxRecDepth 100000 in
theorem mc_236 : Cond.code (mty 236) (mby 236) (tab 236).1 (mre 236) ∈ lw_tbl := List.mem_append_right _ (List.mem_of_getElem? (i := 1552) rfl)
set_option maxRecDepth 100000 in
theorem mc_237 : Cond.code (mty 237) (mby 237) (tab 237).1 (mre 237) ∈ lw_tbl := List.mem_append_right _ (List.mem_of_getElem? (i := 1556) rfl)
set_option maxRecDepth 100000 in
theorem mc_238 : Cond.code (mty 238) (mby 238) (tab 238).1 (mre 238) ∈ lw_tbl := List.mem_append_right _ (List.mem_of_getElem? (i := 1560) rfl)
set_option maxRecDepth 100000 in
theorem mc_239 : Cond.code (mty 239) (mby 239) (tab 239).1 (mre 239) ∈ lw_tbl := List.mem_append_right _ (List.mem_of_getElem? (i := 1564) rfl)
set_option maxRecDepth 100000 in
theorem mc_240 : Cond.code (mty 240) (mby 240) (tab 240).1 (mre 240) ∈ lw_tbl := List.mem_append_right _ (List.mem_of_getElem? (i := 1568) rfl)
set_option maxRecDepth 100000 in
theorem mc_241 : Cond.code (mty 241) (mby 241) (tab 241).1 (mre 241) ∈ lw_tbl := List.mem_append_right _ (List.mem_of_getElem? (i := 1572) rfl)
set_option maxRecDepth 100000 in
theorem mc_242 : Cond.code (mty 242) (mby 242) (tab 242).1 (mre 242) ∈ lw_tbl := List.mem_append_right _ (List.mem_of_getElem? (i := 1576) rfl)
set_option maxRecDepth 100000 in
theorem mc_243 : Cond.code (mty 243) (mby 243) (tab 243).1 (mre 243) ∈ lw_tbl := List.mem_append_right _ (List.mem_of_getElem? (i := 1580) rfl)
set_option maxRecDepth 100000 in
theorem mc_244 : Cond.code (mty 244) (mby 244) (tab 244).1 (mre 244) ∈ lw_tbl := List.mem_append_right _ (List.mem_of_getElem? (i := 1584) rfl)
set_option maxRecDepth 100000 in
theorem mc_245 : Cond.code (mty 245) (mby 245) (tab 245).1 (mre 245) ∈ lw_tbl := List.mem_append_right _ (List.mem_of_getElem? (i := 1588) rfl)
set_option maxRecDepth 100000 in
theorem mc_246 : Cond.code (mty 246) (mby 246) (tab 246).1 (mre 246) ∈ lw_tbl := List.mem_append_right _ (List.mem_of_getElem? (i := 1592) rfl)
set_option maxRecDepth 100000 in
theorem mc_247 : Cond.code (mty 247) (mby 247) (tab 247).1 (mre 247) ∈ lw_tbl := List.mem_append_right _ (List.mem_of_getElem? (i := 1596) rfl)
set_option maxRecDepth 100000 in
theorem mc_248 : Cond.code (mty 248) (mby 248) (tab 248).1 (mre 248) ∈ lw_tbl := List.mem_append_right _ (List.mem_of_getElem? (i := 1600) rfl)
set_option maxRecDepth 100000 in
theorem mc_249 : Cond.code (mty 249) (mby 249) (tab 249).1 (mre 249) ∈ lw_tbl := List.mem_append_right _ (List.mem_of_getElem? (i := 1604) rfl)
set_option maxRecDepth 100000 in
theorem mc_250 : Cond.code (mty 250) (mby 250) (tab 250).1 (mre 250) ∈ lw_tbl := List.mem_append_right _ (List.mem_of_getElem? (i := 1608) rfl)
set_option maxRecDepth 100000 in
theorem mc_251 : Cond.code (mty 251) (mby 251) (tab 251).1 (mre 251) ∈ lw_tbl := List.mem_append_right _ (List.mem_of_getElem? (i := 1612) rfl)
set_option maxRecDepth 100000 in
theorem mc_252 : Cond.code (mty 252) (mby 252) (tab 252).1 (mre 252) ∈ lw_tbl := List.mem_append_right _ (List.mem_of_getElem? (i := 1616) rfl)
set_option maxRecDepth 100000 in
theorem mc_253 : Cond.code (mty 253) (mby 253) (tab 253).1 (mre 253) ∈ lw_tbl := List.mem_append_right _ (List.mem_of_getElem? (i := 1620) rfl)
set_option maxRecDepth 100000 in
theorem mc_254 : Cond.code (mty 254) (mby 254) (tab 254).1 (mre 254) ∈ lw_tbl := List.mem_append_right _ (List.mem_of_getElem? (i := 1624) rfl)
set_option maxRecDepth 100000 in
theorem mc_255 : Cond.code (mty 255) (mby 255) (tab 255).1 (mre 255) ∈ lw_tbl := List.mem_append_right _ (List.mem_of_getElem? (i := 1628) rfl)
set_option maxRecDepth 100000 in
theorem mc_256 : Cond.code (mty 256) (mby 256) (tab 256).1 (mre 256) ∈ lw_tbl := List.mem_append_right _ (List.mem_of_getElem? (i := 1632) rfl)
set_option maxRecDepth 100000 in
theorem mc_257 : Cond.code (mty 257) (mby 257) (tab 257).1 (mre 257) ∈ lw_tbl := List.mem_append_right _ (List.mem_of_getElem? (i := 1636) rfl)
set_option maxRecDepth 100000 in
theorem mc_258 : Cond.code (mty 258) (mby 258) (tab 258).1 (mre 258) ∈ lw_tbl := List.mem_append_right _ (List.mem_of_getElem? (i := 1640) rfl)
set_option maxRecDepth 100000 in
theorem mc_259 : Cond.code (mty 259) (mby 259) (tab 259).1 (mre 259) ∈ lw_tbl := List.mem_append_right _ (List.mem_of_getElem? (i := 1644) rfl)
theorem pf_1 : plainFor (mty 1) = true := plainFor_of_name (by decide +kernel)
theorem pf_2 : plainFor (mty 2) = true := plainFor_of_name (by decide +kernel)
theorem pf_3 : plainFor (mty 3) = true := plainFor_of_name (by decide +kernel)
theorem pf_4 : plainFor (mty 4) = true := plainFor_of_name (by decide +kernel)
theorem pf_5 : plainFor (mty 5) = true := plainFor_of_name (by decide +kernel)
theorem pf_6 : plainFor (mty 6) = true := plainFor_of_name (by decide +kernel)
theorem pf_7 : plainFor (mty 7) = true := plainFor_of_name (by decide +kernel)
theorem pf_8 : plainFor (mty 8) = true := plainFor_of_name (by decide +kernel)
theorem pf_9 : plainFor (mty 9) = true := plainFor_of_name (by decide +kernel)
theorem pf_10 : plainFor (mty 10) = true := plainFor_of_name (by decide +kernel)
theorem pf_11 : plainFor (mty 11) = true := plainFor_of_name (by decide +kernel)
theorem pf_12 : plainFor (mty 12) = true := plainFor_of_name (by decide +kernel)
theorem pf_13 : plainFor (mty 13) = true := plainFor_of_name (by decide +kernel)
theorem pf_14 : plainFor (mty 14) = true := plainFor_of_name (by decide +kernel)
theorem pf_15 : plainFor (mty 15) = true := plainFor_of_name (by decide +kernel)
theorem pf_16 : plainFor (mty 16) = true := plainFor_of_name (by decide +kernel)
theorem pf_17 : plainFor (mty 17) = true := plainFor_of_name (by decide +kernel)
theorem pf_18 : plainFor (mty 18) = true := plainFor_of_name (by decide +kernel)
theorem pf_19 : plainFor (mty 19) = true := plainFor_of_name (by decide +kernel)
theorem pf_20 : plainFor (mty 20) = true := plainFor_of_name (by decide +kernel)
theorem pf_21 : plainFor (mty 21) = true := plainFor_of_name (by decide +kernel)
theorem pf_22 : plainFor (mty 22) = true := plainFor_of_name (by decide +kernel)
theorem pf_23 : plainFor (mty 23) = true := plainFor_of_name (by decide +kernel)
theorem pf_24 : plainFor (mty 24) = true := plainFor_of_name (by decide +kernel)
theorem pf_25 : plainFor (mty 25) = true := plainFor_of_name (by decide +kernel)
theorem pf_26 : plainFor (mty 26) = true := plainFor_of_name (by decide +kernel)
theorem pf_27 : plainFor (mty 27) = true := plainFor_of_name (by decide +kernel)
theorem pf_28 : plainFor (mty 28) = true := plainFor_of_name (by decide +kernel)
theorem pf_29 : plainFor (mty 29) = true := plainFor_of_name (by decide +kernel)
theorem pf_30 : plainFor (mty 30) = true := plainFor_of_name (by decide +kernel)
theorem pf_31 : plainFor (mty 31) = true := plainFor_of_name (by decide +kernel)
theorem pf_32 : plainFor (mty 32) = true := plainFor_of_name (by decide +kernel)
theorem pf_33 : plainFor (mty 33) = true := plainFor_of_name (by decide +kernel)
theorem pf_34 : plainFor (mty 34) = true := plainFor_of_name (by decide +kernel)
theorem pf_35 : plainFor (mty 35) = true := plainFor_of_name (by decide +kernel)
theorem pf_36 : plainFor (mty 36) = true := plainFor_of_name (by decide +kernel)
theorem pf_37 : plainFor (mty 37) = true := plainFor_of_name (by decide +kernel)
theorem pf_38 : plainFor (mty 38) = true := plainFor_of_name (by decide +kernel)
theorem pf_39 : plainFor (mty 39) = true := plainFor_of_name (by decide +kernel)
theorem pf_40 : plainFor (mty 40) = true := plainFor_of_name (by decide +kernel)
theorem pf_41 : plainFor (mty 41) = true := plainFor_of_name (by decide +kernel)
theorem pf_42 : plainFor (mty 42) = true := plainFor_of_name (by decide +kernel)
theorem pf_43 : plainFor (mty 43) = true := plainFor_of_name (by decide +kernel)
theorem pf_44 : plainFor (mty 44) = true := plainFor_of_name (by decide +kernel)
theorem pf_45 : plainFor (mty 45) = true := plainFor_of_name (by decide +kernel)
theorem pf_46 : plainFor (mty 46) = true := plainFor_of_name (by decide +kernel)
theorem pf_47 : plainFor (mty 47) = true := plainFor_of_name (by decide +kernel)
theorem pf_48 : plainFor (mty 48) = true := plainFor_of_name (by decide +kernel)
theorem pf_49 : plainFor (mty 49) = true := plainFor_of_name (by decide +kernel)
theorem pf_50 : plainFor (mty 50) = true := plainFor_of_name (by decide +kernel)
theorem pf_51 : plainFor (mty 51) = true := plainFor_of_name (by decide +kernel)
theorem pf_52 : plainFor (mty 52) = true := plainFor_of_name (by decide +kernel)
theorem pf_53 : plainFor (mty 53) = true := by decide +kernel
theorem pf_54 : plainFor (mty 54) = true := by decide +kernel
theorem pf_55 : plainFor (mty 55) = true := plainFor_of_name (by decide +kernel)
theorem pf_56 : plainFor (mty 56) = true := plainFor_of_name (by decide +kernel)
theorem pf_57 : plainFor (mty 57) = true := plainFor_of_name (by decide +kernel)
theorem pf_58 : plainFor (mty 58) = true := plainFor_of_name (by decide +kernel)
theorem pf_59 : plainFor (mty 59) = true := plainFor_of_name (by decide +kernel)
theorem pf_60 : plainFor (mty 60) = true := plainFor_of_name (by decide +kernel)
theorem pf_61 : plainFor (mty 61) = true := plainFor_of_name (by decide +kernel)
theorem pf_62 : plainFor (mty 62) = true := plainFor_of_name (by decide +kernel)
theorem pf_63 : plainFor (mty 63) = true := plainFor_of_name (by decide +kernel)
theorem pf_64 : plainFor (mty 64) = true := plainFor_of_name (by decide +kernel)
theorem pf_65 : plainFor (mty 65) = true := plainFor_of_name (by decide +kernel)
theorem pf_66 : plainFor (mty 66) = true := plainFor_of_name (by decide +kernel)
theorem pf_67 : plainFor (mty 67) = true := plainFor_of_name (by decide +kernel)
theorem pf_68 : plainFor (mty 68) = true := plainFor_of_name (by decide +kernel)
theorem pf_69 : plainFor (mty 69) = true := plainFor_of_name (by decide +kernel)
theorem pf_70 : plainFor (mty 70) = true := plainFor_of_name (by decide +kernel)
theorem pf_71 : plainFor (mty 71) = true := plainFor_of_name (by decide +kernel)
theorem pf_72 : plainFor (mty 72) = true := plainFor_of_name (by decide +kernel)
theorem pf_73 : plainFor (mty 73) = true := plainFor_of_name (by decide +kernel)
theorem pf_74 : plainFor (mty 74) = true := plainFor_of_name (by decide +kernel)
theorem pf_75 : plainFor (mty 75) = true := plainFor_of_name (by decide +kernel)
theorem pf_76 : plainFor (mty 76) = true := plainFor_of_name (by decide +kernel)
theorem pf_77 : plainFor (mty 77) = true := plainFor_of_name (by decide +kernel)
theorem pf_78 : plainFor (mty 78) = true := plainFor_of_name (by decide +kernel)
theorem pf_79 : plainFor (mty 79) = true := plainFor_of_name (by decide +kernel)
theorem pf_80 : plainFor (mty 80) = true := plainFor_of_name (by decide +kernel)
theorem pf_81 : plainFor (mty 81) = true := plainFor_of_name (by decide +kernel)
theorem pf_82 : plainFor (mty 82) = true := plainFor_of_name (by decide +kernel)
theorem pf_83 : plainFor (mty 83) = true := plainFor_of_name (by decide +kernel)
theorem pf_84 : plainFor (mty 84) = true := plainFor_of_name (by decide +kernel)
theorem pf_85 : plainFor (mty 85) = true := plainFor_of_name (by decide +kernel)
theorem pf_86 : plainFor (mty 86) = true := plainFor_of_name (by decide +kernel)
theorem pf_87 : plainFor (mty 87) = true := plainFor_of_name (by decide +kernel)
theorem pf_88 : plainFor (mty 88) = true := plainFor_of_name (by decide +kernel)
theorem pf_89 : plainFor (mty 89) = true := plainFor_of_name (by decide +kernel)
theorem pf_90 : plainFor (mty 90) = true := plainFor_of_name (by decide +kernel)
theorem pf_91 : plainFor (mty 91) = true := plainFor_of_name (by decide +kernel)
theorem pf_92 : plainFor (mty 92) = true := plainFor_of_name (by decide +kernel)
theorem pf_93 : plainFor (mty 93) = true := plainFor_of_name (by decide +kernel)
theorem pf_94 : plainFor (mty 94) = true := plainFor_of_name (by decide +kernel)
theorem pf_95 : plainFor (mty 95) = true := plainFor_of_name (by decide +kernel)
theorem pf_96 : plainFor (mty 96) = true := plainFor_of_name (by decide +kernel)
theorem pf_97 : plainFor (mty 97) = true := plainFor_of_name (by decide +kernel)
theorem pf_98 : plainFor (mty 98) = true := plainFor_of_name (by decide +kernel)
theorem pf_99 : plainFor (mty 99) = true := plainFor_of_name (by decide +kernel)
theorem pf_100 : plainFor (mty 100) = true := by decide +kernel
theorem pf_101 : plainFor (mty 101) = true := plainFor_of_name (by decide +kernel)
theorem pf_102 : plainFor (mty 102) = true := plainFor_of_name (by decide +kernel)
theorem pf_103 : plainFor (mty 103) = true := plainFor_of_name (by decide +kernel)
theorem pf_104 : plainFor (mty 104) = true := plainFor_of_name (by decide +kernel)
theorem pf_105 : plainFor (mty 105) = true := plainFor_of_name (by decide +kernel)
theorem pf_106 : plainFor (mty 106) = true := plainFor_of_name (by decide +kernel)
theorem pf_107 : plainFor (mty 107) = true := plainFor_of_name (by decide +kernel)
theorem pf_108 : plainFor (mty 108) = true := plainFor_of_name (by decide +kernel)
theorem pf_109 : plainFor (mty 109) = true := plainFor_of_name (by decide +kernel)
theorem pf_110 : plainFor (mty 110) = true := plainFor_of_name (by decide +kernel)
theorem pf_111 : plainFor (mty 111) = true := plainFor_of_name (by decide +kernel)
theorem pf_112 : plainFor (mty 112) = true := plainFor_of_name (by decide +kernel)
theorem pf_113 : plainFor (mty 113) = true := plainFor_of_name (by decide +kernel)
theorem pf_114 : plainFor (mty 114) = true := plainFor_of_name (by decide +kernel)
theorem pf_115 : plainFor (mty 115) = true := plainFor_of_name (by decide +kernel)
theorem pf_116 : plainFor (mty 116) = true := plainFor_of_name (by decide +kernel)
theorem pf_117 : plainFor (mty 117) = true := plainFor_of_name (by decide +kernel)
theorem pf_118 : plainFor (mty 118) = true := plainFor_of_name (by decide +kernel)
theorem pf_119 : plainFor (mty 119) = true := plainFor_of_name (by decide +kernel)
theorem pf_120 : plainFor (mty 120) = true := plainFor_of_name (by decide +kernel)
theorem pf_121 : plainFor (mty 121) = true := plainFor_of_name (by decide +kernel)
theorem pf_122 : plainFor (mty 122) = true := plainFor_of_name (by decide +kernel)
theorem pf_123 : plainFor (mty 123) = true := plainFor_of_name (by decide +kernel)
theorem pf_124 : plainFor (mty 124) = true := plainFor_of_name (by decide +kernel)
theorem pf_125 : plainFor (mty 125) = true := plainFor_of_name (by decide +kernel)
theorem pf_126 : plainFor (mty 126) = true := plainFor_of_name (by decide +kernel)
theorem pf_127 : plainFor (mty 127) = true := plainFor_of_name (by decide +kernel)
theorem pf_128 : plainFor (mty 128) = true := plainFor_of_name (by decide +kernel)
theorem pf_129 : plainFor (mty 129) = true := plainFor_of_name (by decide +kernel)
theorem pf_130 : plainFor (mty 130) = true := plainFor_of_name (by decide +kernel)
theorem pf_131 : plainFor (mty 131) = true := plainFor_of_name (by decide +kernel)
theorem pf_132 : plainFor (mty 132) = true := plainFor_of_name (by decide +kernel)
theorem pf_133 : plainFor (mty 133) = true := plainFor_of_name (by decide +kernel)
theorem pf_134 : plainFor (mty 134) = true := plainFor_of_name (by decide +kernel)
theorem pf_135 : plainFor (mty 135) = true := plainFor_of_name (by decide +kernel)
theorem pf_136 : plainFor (mty 136) = true := plainFor_of_name (by decide +kernel)
theorem pf_137 : plainFor (mty 137) = true := plainFor_of_name (by decide +kernel)
theorem pf_138 : plainFor (mty 138) = true := plainFor_of_name (by decide +kernel)
theorem pf_139 : plainFor (mty 139) = true := plainFor_of_name (by decide +kernel)
theorem pf_140 : plainFor (mty 140) = true := plainFor_of_name (by decide +kernel)
theorem pf_141 : plainFor (mty 141) = true := plainFor_of_name (by decide +kernel)
theorem pf_142 : plainFor (mty 142) = true := plainFor_of_name (by decide +kernel)
theorem pf_143 : plainFor (mty 143) = true := plainFor_of_name (by decide +kernel)
theorem pf_144 : plainFor (mty 144) = true := plainFor_of_name (by decide +kernel)
theorem pf_145 : plainFor (mty 145) = true := plainFor_of_name (by decide +kernel)
theorem pf_146 : plainFor (mty 146) = true := plainFor_of_name (by decide +kernel)
theorem pf_147 : plainFor (mty 147) = true := plainFor_of_name (by decide +kernel)
theorem pf_148 : plainFor (mty 148) = true := plainFor_of_name (by decide +kernel)
theorem pf_149 : plainFor (mty 149) = true := plainFor_of_name (by decide +kernel)
theorem pf_150 : plainFor (mty 150) = true := plainFor_of_name (by decide +kernel)
theorem pf_151 : plainFor (mty 151) = true := plainFor_of_name (by decide +kernel)
theorem pf_152 : plainFor (mty 152) = true := plainFor_of_name (by decide +kernel)
theorem pf_153 : plainFor (mty 153) = true := plainFor_of_name (by decide +kernel)
theorem pf_154 : plainFor (mty 154) = true := plainFor_of_name (by decide +kernel)
theorem pf_155 : plainFor (mty 155) = true := plainFor_of_name (by decide +kernel)
theorem pf_156 : plainFor (mty 156) = true := plainFor_of_name (by decide +kernel)
theorem pf_157 : plainFor (mty 157) = true := plainFor_of_name (by decide +kernel)
theorem pf_158 : plainFor (mty 158) = true := plainFor_of_name (by decide +kernel)
theorem pf_159 : plainFor (mty 159) = true := plainFor_of_name (by decide +kernel)
theorem pf_160 : plainFor (mty 160) = true := plainFor_of_name (by decide +kernel)
theorem pf_161 : plainFor (mty 161) = true := plainFor_of_name (by decide +kernel)
theorem pf_162 : plainFor (mty 162) = true := plainFor_of_name (by decide +kernel)
theorem pf_163 : plainFor (mty 163) = true := plainFor_of_name (by decide +kernel)
theorem pf_164 : plainFor (mty 164) = true := plainFor_of_name (by decide +kernel)
theorem pf_165 : plainFor (mty 165) = true := plainFor_of_name (by decide +kernel)
theorem pf_166 : plainFor (mty 166) = true := plainFor_of_name (by decide +kernel)
theorem pf_167 : plainFor (mty 167) = true := plainFor_of_name (by decide +kernel)
theorem pf_168 : plainFor (mty 168) = true := plainFor_of_name (by decide +kernel)
theorem pf_169 : plainFor (mty 169) = true := plainFor_of_name (by decide +kernel)
theorem pf_170 : plainFor (mty 170) = true := plainFor_of_name (by decide +kernel)
theorem pf_171 : plainFor (mty 171) = true := plainFor_of_name (by decide +kernel)
theorem pf_172 : plainFor (mty 172) = true := plainFor_of_name (by decide +kernel)
theorem pf_173 : plainFor (mty 173) = true := plainFor_of_name (by decide +kernel)
theorem pf_174 : plainFor (mty 174) = true := plainFor_of_name (by decide +kernel)
theorem pf_175 : plainFor (mty 175) = true := plainFor_of_name (by decide +kernel)
theorem pf_176 : plainFor (mty 176) = true := plainFor_of_name (by decide +kernel)
theorem pf_177 : plainFor (mty 177) = true := plainFor_of_name (by decide +kernel)
theorem pf_178 : plainFor (mty 178) = true := plainFor_of_name (by decide +kernel)
theorem pf_179 : plainFor (mty 179) = true := plainFor_of_name (by decide +kernel)
theorem pf_180 : plainFor (mty 180) = true := plainFor_of_name (by decide +kernel)
theorem pf_181 : plainFor (mty 181) = true := plainFor_of_name (by decide +kernel)
theorem pf_182 : plainFor (mty 182) = true := plainFor_of_name (by decide +kernel)
theorem pf_183 : plainFor (mty 183) = true := plainFor_of_name (by decide +kernel)
theorem pf_184 : plainFor (mty 184) = true := plainFor_of_name (by decide +kernel)
theorem pf_185 : plainFor (mty 185) = true := plainFor_of_name (by decide +kernel)
theorem pf_186 : plainFor (mty 186) = true := plainFor_of_name (by decide +kernel)
theorem pf_187 : plainFor (mty 187) = true := plainFor_of_name (by decide +kernel)
theorem pf_188 : plainFor (mty 188) = true := plainFor_of_name (by decide +kernel)
theorem pf_189 : plainFor (mty 189) = true := plainFor_of_name (by decide +kernel)
theorem pf_190 : plainFor (mty 190) = true := plainFor_of_name (by decide +kernel)
theorem pf_191 : plainFor (mty 191) = true := plainFor_of_name (by decide +kernel)
theorem pf_192 : plainFor (mty 192) = true := plainFor_of_name (by decide +kernel)
theorem pf_193 : plainFor (mty 193) = true := plainFor_of_name (by decide +kernel)
theorem pf_194 : plainFor (mty 194) = true := plainFor_of_name (by decide +kernel)
theorem pf_195 : plainFor (mty 195) = true := plainFor_of_name (by decide +kernel)
theorem pf_196 : plainFor (mty 196) = true := plainFor_of_name (by decide +kernel)
theorem pf_197 : plainFor (mty 197) = true := plainFor_of_name (by decide +kernel)
theorem pf_198 : plainFor (mty 198) = true := plainFor_of_name (by decide +kernel)
theorem pf_199 : plainFor (mty 199) = true := plainFor_of_name (by decide +kernel)
theorem pf_200 : plainFor (mty 200) = true := plainFor_of_name (by decide +kernel)
theorem pf_201 : plainFor (mty 201) = true := plainFor_of_name (by decide +kernel)
theorem pf_202 : plainFor (mty 202) = true := plainFor_of_name (by decide +kernel)
theorem pf_203 : plainFor (mty 203) = true := plainFor_of_name (by decide +kernel)
theorem pf_204 : plainFor (mty 204) = true := plainFor_of_name (by decide +kernel)
theorem pf_205 : plainFor (mty 205) = true := plainFor_of_name (by decide +kernel)
theorem pf_206 : plainFor (mty 206) = true := plainFor_of_name (by decide +kernel)
theorem pf_207 : plainFor (mty 207) = true := plainFor_of_name (by decide +kernel)
theorem pf_208 : plainFor (mty 208) = true := plainFor_of_name (by decide +kernel)
theorem pf_209 : plainFor (mty 209) = true := plainFor_of_name (by decide +kernel)
theorem pf_210 : plainFor (mty 210) = true := plainFor_of_name (by decide +kernel)
theorem pf_211 : plainFor (mty 211) = true := plainFor_of_name (by decide +kernel)
theorem pf_212 : plainFor (mty 212) = true := plainFor_of_name (by decide +kernel)
theorem pf_213 : plainFor (mty 213) = true := plainFor_of_name (by decide +kernel)
theorem pf_214 : plainFor (mty 214) = true := plainFor_of_name (by decide +kernel)
theorem pf_215 : plainFor (mty 215) = true := plainFor_of_name (by decide +kernel)
theorem pf_216 : plainFor (mty 216) = true := plainFor_of_name (by decide +kernel)
theorem pf_217 : plainFor (mty 217) = true := plainFor_of_name (by decide +kernel)
theorem pf_218 : plainFor (mty 218) = true := plainFor_of_name (by decide +kernel)
theorem pf_219 : plainFor (mty 219) = true := plainFor_of_name (by decide +kernel)
theorem pf_220 : plainFor (mty 220) = true := plainFor_of_name (by decide +kernel)
theorem pf_221 : plainFor (mty 221) = true := plainFor_of_name (by decide +kernel)
theorem pf_222 : plainFor (mty 222) = true := plainFor_of_name (by decide +kernel)
theorem pf_223 : plainFor (mty 223) = true := plainFor_of_name (by decide +kernel)
theorem pf_224 : plainFor (mty 224) = true := plainFor_of_name (by decide +kernel)
theorem pf_225 : plainFor (mty 225) = true := plainFor_of_name (by decide +kernel)
theorem pf_226 : plainFor (mty 226) = true := plainFor_of_name (by decide +kernel)
theorem pf_227 : plainFor (mty 227) = true := plainFor_of_name (by decide +kernel)
theorem pf_228 : plainFor (mty 228) = true := plainFor_of_name (by decide +kernel)
theorem pf_229 : plainFor (mty 229) = true := plainFor_of_name (by decide +kernel)
theorem pf_230 : plainFor (mty 230) = true := plainFor_of_name (by decide +kernel)
theorem pf_231 : plainFor (mty 231) = true := plainFor_of_name (by decide +kernel)
theorem pf_232 : plainFor (mty 232) = true := plainFor_of_name (by decide +kernel)
theorem pf_233 : plainFor (mty 233) = true := plainFor_of_name (by decide +kernel)
theorem pf_234 : plainFor (mty 234) = true := plainFor_of_name (by decide +kernel)
theorem pf_235 : plainFor (mty 235) = true := plainFor_of_name (by decide +kernel)
theorem pf_236 : plainFor (mty 236) = true := plainFor_of_name (by decide +kernel)
theorem pf_237 : plainFor (mty 237) = true := plainFor_of_name (by decide +kernel)
theorem pf_238 : plainFor (mty 238) = true := plainFor_of_name (by decide +kernel)
theorem pf_239 : plainFor (mty 239) = true := plainFor_of_name (by decide +kernel)
theorem pf_240 : plainFor (mty 240) = true := plainFor_of_name (by decide +kernel)
theorem pf_241 : plainFor (mty 241) = true := plainFor_of_name (by decide +kernel)
theorem pf_242 : plainFor (mty 242) = true := plainFor_of_name (by decide +kernel)
theorem pf_243 : plainFor (mty 243) = true := plainFor_of_name (by decide +kernel)
theorem pf_244 : plainFor (mty 244) = true := plainFor_of_name (by decide +kernel)
theorem pf_245 : plainFor (mty 245) = true := plainFor_of_name (by decide +kernel)
theorem pf_246 : plainFor (mty 246) = true := plainFor_of_name (by decide +kernel)
theorem pf_247 : plainFor (mty 247) = true := plainFor_of_name (by decide +kernel)
theorem pf_248 : plainFor (mty 248) = true := plainFor_of_name (by decide +kernel)
theorem pf_249 : plainFor (mty 249) = true := plainFor_of_name (by decide +kernel)
theorem pf_250 : plainFor (mty 250) = true := plainFor_of_name (by decide +kernel)
theorem pf_251 : plainFor (mty 251) = true := plainFor_of_name (by decide +kernel)
theorem pf_252 : plainFor (mty 252) = true := plainFor_of_name (by decide +kernel)
theorem pf_253 : plainFor (mty 253) = true := plainFor_of_name (by decide +kernel)
theorem pf_254 : plainFor (mty 254) = true := plainFor_of_name (by decide +kernel)
theorem pf_255 : plainFor (mty 255) = true := plainFor_of_name (by decide +kernel)
theorem pf_256 : plainFor (mty 256) = true := plainFor_of_name (by decide +kernel)
theorem pf_257 : plainFor (mty 257) = true := plainFor_of_name (by decide +kernel)
theorem pf_258 : plainFor (mty 258) = true := plainFor_of_name (by decide +kernel)
theorem pf_259 : plainFor (mty 259) = true := plainFor_of_name (by decide +kernel)
