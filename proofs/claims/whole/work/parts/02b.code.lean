/-- PageInterpreter$Paths.addPart([I)V -/
def k_106_37 : List CE := (37, .return_, 1, 0, 0, 0) :: []
def k_106_31 : List CE := (31, .iinc 2 2, 3, 0, 0, 0) :: (34, .goto (-32), 3, 0, 0, 0) :: k_106_37
def k_106_28 : List CE := (28, .invokevirtual 43, 3, 103, 4004, 6) :: k_106_31
def k_106_27 : List CE := (27, .iconst 0, 1, 0, 0, 0) :: k_106_28
def k_106_2 : List CE := (2, .iload_n 2, 1, 0, 0, 0) :: (3, .iconst 1, 1, 0, 0, 0) :: (4, .iadd, 1, 0, 0, 0) :: (5, .aload_n 1, 1, 0, 0, 0) :: (6, .arraylength, 1, 0, 0, 0) :: (7, .if_icmp .ge 30, 3, 0, 0, 0) :: (10, .aload_n 0, 1, 0, 0, 0) :: (11, .aload_n 1, 1, 0, 0, 0) :: (12, .iload_n 2, 1, 0, 0, 0) :: (13, .iaload, 1, 0, 0, 0) :: (14, .aload_n 1, 1, 0, 0, 0) :: (15, .iload_n 2, 1, 0, 0, 0) :: (16, .iconst 1, 1, 0, 0, 0) :: (17, .iadd, 1, 0, 0, 0) :: (18, .iaload, 1, 0, 0, 0) :: (19, .iload_n 2, 1, 0, 0, 0) :: (20, .ifCond .ne 7, 3, 0, 0, 0) :: (23, .iconst 1, 1, 0, 0, 0) :: (24, .goto 4, 3, 0, 0, 0) :: k_106_27
def k_106_0 : List CE := (0, .iconst 0, 1, 0, 0, 0) :: (1, .istore_n 2, 1, 0, 0, 0) :: k_106_2
/-- PageInterpreter$Paths.mark(Z)V -/
def k_107_32 : List CE := (32, .return_, 1, 0, 0, 0) :: []
def k_107_0 : List CE := (0, .aload_n 0, 1, 0, 0, 0) :: (1, .getfield 28, 3, 5, 0, 5) :: (4, .ifCond .lt 28, 3, 0, 0, 0) :: (7, .aload_n 0, 1, 0, 0, 0) :: (8, .getfield 28, 3, 5, 0, 5) :: (11, .sipush 200, 3, 0, 0, 0) :: (14, .if_icmp .ge 18, 3, 0, 0, 0) :: (17, .aload_n 0, 1, 0, 0, 0) :: (18, .iconst 1, 1, 0, 0, 0) :: (19, .putfield 35, 3, 5, 3, 7) :: (22, .aload_n 0, 1, 0, 0, 0) :: (23, .getfield 25, 3, 5, 2, 4) :: (26, .aload_n 0, 1, 0, 0, 0) :: (27, .getfield 28, 3, 5, 0, 5) :: (30, .iload_n 1, 1, 0, 0, 0) :: (31, .bastore, 1, 0, 0, 0) :: k_107_32
/-- PageInterpreter$Machine.endPath(LPageInterpreter$Operator;II)I -/
def k_108_116 : List CE := (116, .iconst 0, 1, 0, 0, 0) :: (117, .ireturn, 1, 0, 0, 0) :: []
def k_108_104 : List CE := (104, .iload 5, 2, 0, 0, 0) :: (106, .ifCond .eq 10, 3, 0, 0, 0) :: (109, .aload 6, 2, 0, 0, 0) :: (111, .iload 7, 2, 0, 0, 0) :: (113, .invokevirtual 282, 3, 113, 2002, 9) :: k_108_116
def k_108_97 : List CE := (97, .aload 6, 2, 0, 0, 0) :: (99, .iload_n 2, 1, 0, 0, 0) :: (100, .iload_n 3, 1, 0, 0, 0) :: (101, .invokevirtual 279, 3, 112, 6006, 7) :: k_108_104
def k_108_96 : List CE := (96, .iconst 0, 1, 0, 0, 0) :: k_108_97
def k_108_72 : List CE := (72, .istore 7, 2, 0, 0, 0) :: (74, .iload 4, 2, 0, 0, 0) :: (76, .ifCond .eq 28, 3, 0, 0, 0) :: (79, .aload_n 0, 1, 0, 0, 0) :: (80, .getfield 26, 3, 4, 2, 2) :: (83, .iload 7, 2, 0, 0, 0) :: (85, .aload_n 1, 1, 0, 0, 0) :: (86, .getstatic 276, 3, 13, 2, 0) :: (89, .if_acmp .ne 7, 3, 0, 0, 0) :: (92, .iconst 1, 1, 0, 0, 0) :: (93, .goto 4, 3, 0, 0, 0) :: k_108_96
def k_108_65 : List CE := (65, .aload_n 0, 1, 0, 0, 0) :: (66, .getfield 34, 3, 4, 2, 3) :: (69, .invokevirtual 273, 3, 111, 1001, 6) :: k_108_72
def k_108_62 : List CE := (62, .bipush 6, 2, 0, 0, 0) :: (64, .ireturn, 1, 0, 0, 0) :: k_108_65
def k_108_59 : List CE := (59, .ifCond .eq 6, 3, 0, 0, 0) :: k_108_62
def k_108_47 : List CE := (47, .iload 4, 2, 0, 0, 0) :: (49, .ifCond .eq 16, 3, 0, 0, 0) :: (52, .aload_n 0, 1, 0, 0, 0) :: (53, .getfield 26, 3, 4, 2, 2) :: (56, .invokevirtual 272, 3, 110, 1001, 7) :: k_108_59
def k_108_44 : List CE := (44, .ifCond .ne 18, 3, 0, 0, 0) :: k_108_47
def k_108_12 : List CE := (12, .istore 4, 2, 0, 0, 0) :: (14, .aload_n 0, 1, 0, 0, 0) :: (15, .getfield 34, 3, 4, 2, 3) :: (18, .getfield 266, 3, 5, 3, 7) :: (21, .istore 5, 2, 0, 0, 0) :: (23, .aload_n 0, 1, 0, 0, 0) :: (24, .getfield 19, 3, 4, 2, 1) :: (27, .aload_n 0, 1, 0, 0, 0) :: (28, .getfield 117, 3, 4, 0, 12) :: (31, .aaload, 1, 0, 0, 0) :: (32, .astore 6, 2, 0, 0, 0) :: (34, .iload 5, 2, 0, 0, 0) :: (36, .ifCond .eq 11, 3, 0, 0, 0) :: (39, .aload 6, 2, 0, 0, 0) :: (41, .invokevirtual 269, 3, 109, 1001, 9) :: k_108_44
def k_108_11 : List CE := (11, .iconst 0, 1, 0, 0, 0) :: k_108_12
def k_108_0 : List CE := (0, .aload_n 1, 1, 0, 0, 0) :: (1, .getstatic 263, 3, 14, 2, 0) :: (4, .if_acmp .eq 7, 3, 0, 0, 0) :: (7, .iconst 1, 1, 0, 0, 0) :: (8, .goto 4, 3, 0, 0, 0) :: k_108_11
/-- PageInterpreter$Graphics.isFull()Z -/
def k_109_14 : List CE := (14, .ireturn, 1, 1, 0, 0) :: []
def k_109_13 : List CE := (13, .iconst 0, 1, 0, 0, 0) :: k_109_14
def k_109_0 : List CE := (0, .aload_n 0, 1, 0, 0, 0) :: (1, .getfield 23, 3, 8, 0, 2) :: (4, .bipush 6, 2, 0, 0, 0) :: (6, .if_icmp .lt 7, 3, 0, 0, 0) :: (9, .iconst 1, 1, 0, 0, 0) :: (10, .goto 4, 3, 0, 0, 0) :: k_109_13
/-- PageInterpreter$Items.isFull()Z -/
def k_110_14 : List CE := (14, .ireturn, 1, 1, 0, 0) :: []
def k_110_13 : List CE := (13, .iconst 0, 1, 0, 0, 0) :: k_110_14
def k_110_0 : List CE := (0, .aload_n 0, 1, 0, 0, 0) :: (1, .getfield 41, 3, 6, 0, 8) :: (4, .bipush 30, 2, 0, 0, 0) :: (6, .if_icmp .lt 7, 3, 0, 0, 0) :: (9, .iconst 1, 1, 0, 0, 0) :: (10, .goto 4, 3, 0, 0, 0) :: k_110_13
/-- PageInterpreter$Paths.end()I -/
def k_111_45 : List CE := (45, .aload_n 0, 1, 0, 0, 0) :: (46, .iconst 0, 1, 0, 0, 0) :: (47, .putfield 35, 3, 5, 3, 7) :: (50, .iload_n 1, 1, 0, 0, 0) :: (51, .ireturn, 1, 0, 0, 0) :: []
def k_111_0 : List CE := (0, .aload_n 0, 1, 0, 0, 0) :: (1, .getfield 28, 3, 5, 0, 5) :: (4, .istore_n 1, 1, 0, 0, 0) :: (5, .iload_n 1, 1, 0, 0, 0) :: (6, .sipush 200, 3, 0, 0, 0) :: (9, .if_icmp .ge 36, 3, 0, 0, 0) :: (12, .aload_n 0, 1, 0, 0, 0) :: (13, .dup, 1, 0, 0, 0) :: (14, .getfield 28, 3, 5, 0, 5) :: (17, .iconst 1, 1, 0, 0, 0) :: (18, .iadd, 1, 0, 0, 0) :: (19, .putfield 28, 3, 5, 0, 5) :: (22, .aload_n 0, 1, 0, 0, 0) :: (23, .getfield 22, 3, 5, 2, 3) :: (26, .aload_n 0, 1, 0, 0, 0) :: (27, .getfield 28, 3, 5, 0, 5) :: (30, .aload_n 0, 1, 0, 0, 0) :: (31, .getfield 32, 3, 5, 0, 6) :: (34, .iastore, 1, 0, 0, 0) :: (35, .aload_n 0, 1, 0, 0, 0) :: (36, .getfield 25, 3, 5, 2, 4) :: (39, .aload_n 0, 1, 0, 0, 0) :: (40, .getfield 28, 3, 5, 0, 5) :: (43, .iconst 0, 1, 0, 0, 0) :: (44, .bastore, 1, 0, 0, 0) :: k_111_45
/-- PageInterpreter$Items.add(IZLPageInterpreter$Graphics;II)V -/
def k_112_106 : List CE := (106, .aload_n 0, 1, 0, 0, 0) :: (107, .dup, 1, 0, 0, 0) :: (108, .getfield 41, 3, 6, 0, 8) :: (111, .iconst 1, 1, 0, 0, 0) :: (112, .iadd, 1, 0, 0, 0) :: (113, .putfield 41, 3, 6, 0, 8) :: (116, .return_, 1, 0, 0, 0) :: []
def k_112_17 : List CE := (17, .aload_n 0, 1, 0, 0, 0) :: (18, .getfield 18, 3, 6, 2, 1) :: (21, .aload_n 0, 1, 0, 0, 0) :: (22, .getfield 41, 3, 6, 0, 8) :: (25, .iload_n 1, 1, 0, 0, 0) :: (26, .iastore, 1, 0, 0, 0) :: (27, .aload_n 0, 1, 0, 0, 0) :: (28, .getfield 22, 3, 6, 2, 2) :: (31, .aload_n 0, 1, 0, 0, 0) :: (32, .getfield 41, 3, 6, 0, 8) :: (35, .iload_n 2, 1, 0, 0, 0) :: (36, .bastore, 1, 0, 0, 0) :: (37, .aload_n 0, 1, 0, 0, 0) :: (38, .getfield 26, 3, 6, 2, 3) :: (41, .aload_n 0, 1, 0, 0, 0) :: (42, .getfield 41, 3, 6, 0, 8) :: (45, .aload_n 3, 1, 0, 0, 0) :: (46, .getfield 45, 3, 8, 0, 3) :: (49, .iastore, 1, 0, 0, 0) :: (50, .aload_n 0, 1, 0, 0, 0) :: (51, .getfield 29, 3, 6, 2, 4) :: (54, .aload_n 0, 1, 0, 0, 0) :: (55, .getfield 41, 3, 6, 0, 8) :: (58, .iload 4, 2, 0, 0, 0) :: (60, .iastore, 1, 0, 0, 0) :: (61, .aload_n 0, 1, 0, 0, 0) :: (62, .getfield 32, 3, 6, 2, 5) :: (65, .aload_n 0, 1, 0, 0, 0) :: (66, .getfield 41, 3, 6, 0, 8) :: (69, .iload 5, 2, 0, 0, 0) :: (71, .iastore, 1, 0, 0, 0) :: (72, .aload_n 0, 1, 0, 0, 0) :: (73, .getfield 35, 3, 6, 2, 6) :: (76, .aload_n 0, 1, 0, 0, 0) :: (77, .getfield 41, 3, 6, 0, 8) :: (80, .aload_n 3, 1, 0, 0, 0) :: (81, .getfield 50, 3, 8, 0, 2) :: (84, .iastore, 1, 0, 0, 0) :: (85, .aload_n 3, 1, 0, 0, 0) :: (86, .getfield 53, 3, 8, 2, 1) :: (89, .iconst 0, 1, 0, 0, 0) :: (90, .aload_n 0, 1, 0, 0, 0) :: (91, .getfield 38, 3, 6, 2, 7) :: (94, .aload_n 0, 1, 0, 0, 0) :: (95, .getfield 41, 3, 6, 0, 8) :: (98, .bipush 6, 2, 0, 0, 0) :: (100, .imul, 1, 0, 0, 0) :: (101, .bipush 6, 2, 0, 0, 0) :: (103, .invokestatic 54, 3, 0, 0, (-2)) :: k_112_106
def k_112_16 : List CE := (16, .return_, 1, 0, 0, 0) :: k_112_17
def k_112_0 : List CE := (0, .aload_n 0, 1, 0, 0, 0) :: (1, .getfield 41, 3, 6, 0, 8) :: (4, .ifCond .lt 12, 3, 0, 0, 0) :: (7, .aload_n 0, 1, 0, 0, 0) :: (8, .getfield 41, 3, 6, 0, 8) :: (11, .bipush 30, 2, 0, 0, 0) :: (13, .if_icmp .lt 4, 3, 0, 0, 0) :: k_112_16
/-- PageInterpreter$Graphics.addClip(I)V -/
def k_113_36 : List CE := (36, .return_, 1, 0, 0, 0) :: []
def k_113_0 : List CE := (0, .aload_n 0, 1, 0, 0, 0) :: (1, .getfield 23, 3, 8, 0, 2) :: (4, .ifCond .lt 32, 3, 0, 0, 0) :: (7, .aload_n 0, 1, 0, 0, 0) :: (8, .getfield 23, 3, 8, 0, 2) :: (11, .bipush 6, 2, 0, 0, 0) :: (13, .if_icmp .ge 23, 3, 0, 0, 0) :: (16, .aload_n 0, 1, 0, 0, 0) :: (17, .getfield 15, 3, 8, 2, 1) :: (20, .aload_n 0, 1, 0, 0, 0) :: (21, .getfield 23, 3, 8, 0, 2) :: (24, .iload_n 1, 1, 0, 0, 0) :: (25, .iastore, 1, 0, 0, 0) :: (26, .aload_n 0, 1, 0, 0, 0) :: (27, .dup, 1, 0, 0, 0) :: (28, .getfield 23, 3, 8, 0, 2) :: (31, .iconst 1, 1, 0, 0, 0) :: (32, .iadd, 1, 0, 0, 0) :: (33, .putfield 23, 3, 8, 0, 2) :: k_113_36
/-- PageInterpreter$Machine.setColor(LPageInterpreter$Frame;)I -/
def k_114_78 : List CE := (78, .iconst 0, 1, 0, 0, 0) :: (79, .ireturn, 1, 0, 0, 0) :: []
def k_114_59 : List CE := (59, .aload_n 0, 1, 0, 0, 0) :: (60, .getfield 19, 3, 4, 2, 1) :: (63, .aload_n 0, 1, 0, 0, 0) :: (64, .getfield 117, 3, 4, 0, 12) :: (67, .aaload, 1, 0, 0, 0) :: (68, .iload 4, 2, 0, 0, 0) :: (70, .putfield 304, 3, 8, 0, 3) :: (73, .aload_n 1, 1, 0, 0, 0) :: (74, .iconst 1, 1, 0, 0, 0) :: (75, .invokevirtual 202, 3, 96, 2002, 8) :: k_114_78
def k_114_54 : List CE := (54, .ifCond .ne 5, 3, 0, 0, 0) :: (57, .iconst 2, 1, 0, 0, 0) :: (58, .ireturn, 1, 0, 0, 0) :: k_114_59
def k_114_48 : List CE := (48, .lload_n 2, 1, 0, 0, 0) :: (49, .bipush 15, 2, 0, 0, 0) :: (51, .invokestatic 300, 3, 117, 3002, 0) :: k_114_54
def k_114_38 : List CE := (38, .iload 5, 2, 0, 0, 0) :: (40, .bipush 100, 2, 0, 0, 0) :: (42, .irem, 1, 0, 0, 0) :: (43, .istore 4, 2, 0, 0, 0) :: (45, .goto 14, 3, 0, 0, 0) :: k_114_48
def k_114_25 : List CE := (25, .istore 5, 2, 0, 0, 0) :: (27, .iload 5, 2, 0, 0, 0) :: (29, .bipush 100, 2, 0, 0, 0) :: (31, .idiv, 1, 0, 0, 0) :: (32, .iconst 1, 1, 0, 0, 0) :: (33, .if_icmp .eq 5, 3, 0, 0, 0) :: (36, .iconst 3, 1, 0, 0, 0) :: (37, .ireturn, 1, 0, 0, 0) :: k_114_38
def k_114_16 : List CE := (16, .ifCond .eq 32, 3, 0, 0, 0) :: (19, .aload_n 0, 1, 0, 0, 0) :: (20, .iload 4, 2, 0, 0, 0) :: (22, .invokevirtual 296, 3, 116, 2002, 5) :: k_114_25
def k_114_10 : List CE := (10, .istore 4, 2, 0, 0, 0) :: (12, .lload_n 2, 1, 0, 0, 0) :: (13, .invokestatic 293, 3, 115, 2001, 0) :: k_114_16
def k_114_5 : List CE := (5, .lstore_n 2, 1, 0, 0, 0) :: (6, .lload_n 2, 1, 0, 0, 0) :: (7, .invokestatic 289, 3, 93, 2001, 0) :: k_114_10
def k_114_0 : List CE := (0, .aload_n 1, 1, 0, 0, 0) :: (1, .iconst 0, 1, 0, 0, 0) :: (2, .invokevirtual 221, 3, 88, 2002, 8) :: k_114_5
/-- PageInterpreter$Fraction.isNameValue(J)Z -/
def k_115_12 : List CE := (12, .ireturn, 1, 1, 0, 0) :: []
def k_115_11 : List CE := (11, .iconst 0, 1, 0, 0, 0) :: k_115_12
def k_115_4 : List CE := (4, .ifCond .ne 7, 3, 0, 0, 0) :: (7, .iconst 1, 1, 0, 0, 0) :: (8, .goto 4, 3, 0, 0, 0) :: k_115_11
def k_115_0 : List CE := (0, .lload_n 0, 1, 0, 0, 0) :: (1, .invokestatic 9, 3, 94, 2001, 0) :: k_115_4
/-- PageInterpreter$Machine.lookUp(I)I -/
def k_116_39 : List CE := (39, .iconst 0, 1, 0, 0, 0) :: (40, .ireturn, 1, 0, 0, 0) :: []
def k_116_33 : List CE := (33, .iinc 2 (-1), 3, 0, 0, 0) :: (36, .goto (-31), 3, 0, 0, 0) :: k_116_39
def k_116_26 : List CE := (26, .istore_n 3, 1, 0, 0, 0) :: (27, .iload_n 3, 1, 0, 0, 0) :: (28, .ifCond .eq 5, 3, 0, 0, 0) :: (31, .iload_n 3, 1, 0, 0, 0) :: (32, .ireturn, 1, 0, 0, 0) :: k_116_33
def k_116_5 : List CE := (5, .iload_n 2, 1, 0, 0, 0) :: (6, .ifCond .lt 33, 3, 0, 0, 0) :: (9, .aload_n 0, 1, 0, 0, 0) :: (10, .getfield 109, 3, 4, 2, 9) :: (13, .aload_n 0, 1, 0, 0, 0) :: (14, .getfield 11, 3, 4, 2, 0) :: (17, .iload_n 2, 1, 0, 0, 0) :: (18, .aaload, 1, 0, 0, 0) :: (19, .getfield 96, 3, 7, 0, 4) :: (22, .iload_n 1, 1, 0, 0, 0) :: (23, .invokevirtual 285, 3, 65, 3003, 4) :: k_116_26
def k_116_0 : List CE := (0, .aload_n 0, 1, 0, 0, 0) :: (1, .getfield 59, 3, 4, 0, 11) :: (4, .istore_n 2, 1, 0, 0, 0) :: k_116_5
/-- PageInterpreter$Fraction.isIntegerUpTo(JI)Z -/
def k_117_28 : List CE := (28, .ireturn, 1, 1, 0, 0) :: []
def k_117_27 : List CE := (27, .iconst 0, 1, 0, 0, 0) :: k_117_28
def k_117_19 : List CE := (19, .iload_n 2, 1, 0, 0, 0) :: (20, .if_icmp .gt 7, 3, 0, 0, 0) :: (23, .iconst 1, 1, 0, 0, 0) :: (24, .goto 4, 3, 0, 0, 0) :: k_117_27
def k_117_12 : List CE := (12, .ifCond .lt 15, 3, 0, 0, 0) :: (15, .lload_n 0, 1, 0, 0, 0) :: (16, .invokestatic 13, 3, 93, 2001, 0) :: k_117_19
def k_117_4 : List CE := (4, .iconst 1, 1, 0, 0, 0) :: (5, .if_icmp .ne 22, 3, 0, 0, 0) :: (8, .lload_n 0, 1, 0, 0, 0) :: (9, .invokestatic 13, 3, 93, 2001, 0) :: k_117_12
def k_117_0 : List CE := (0, .lload_n 0, 1, 0, 0, 0) :: (1, .invokestatic 9, 3, 94, 2001, 0) :: k_117_4
/-- PageInterpreter$Machine.draw(LPageInterpreter$Frame;)I -/
def k_118_281 : List CE := (281, .iconst 0, 1, 0, 0, 0) :: (282, .ireturn, 1, 0, 0, 0) :: []
def k_118_252 : List CE := (252, .putfield 123, 3, 4, 0, 14) :: (255, .aload_n 0, 1, 0, 0, 0) :: (256, .getfield 11, 3, 4, 2, 0) :: (259, .aload_n 0, 1, 0, 0, 0) :: (260, .getfield 59, 3, 4, 0, 11) :: (263, .aaload, 1, 0, 0, 0) :: (264, .iload 5, 2, 0, 0, 0) :: (266, .aload_n 0, 1, 0, 0, 0) :: (267, .getfield 109, 3, 4, 2, 9) :: (270, .getfield 133, 3, 3, 2, 0) :: (273, .iload 5, 2, 0, 0, 0) :: (275, .iconst 1, 1, 0, 0, 0) :: (276, .iadd, 1, 0, 0, 0) :: (277, .aaload, 1, 0, 0, 0) :: (278, .invokevirtual 139, 3, 77, 3003, 8) :: k_118_281
def k_118_248 : List CE := (248, .aload_n 0, 1, 0, 0, 0) :: (249, .getfield 123, 3, 4, 0, 14) :: k_118_252
def k_118_219 : List CE := (219, .aload_n 0, 1, 0, 0, 0) :: (220, .dup, 1, 0, 0, 0) :: (221, .getfield 59, 3, 4, 0, 11) :: (224, .iconst 1, 1, 0, 0, 0) :: (225, .iadd, 1, 0, 0, 0) :: (226, .putfield 59, 3, 4, 0, 11) :: (229, .aload_n 0, 1, 0, 0, 0) :: (230, .aload_n 0, 1, 0, 0, 0) :: (231, .getfield 59, 3, 4, 0, 11) :: (234, .aload_n 0, 1, 0, 0, 0) :: (235, .getfield 123, 3, 4, 0, 14) :: (238, .if_icmp .le 10, 3, 0, 0, 0) :: (241, .aload_n 0, 1, 0, 0, 0) :: (242, .getfield 59, 3, 4, 0, 11) :: (245, .goto 7, 3, 0, 0, 0) :: k_118_248
def k_118_216 : List CE := (216, .invokevirtual 282, 3, 113, 2002, 9) :: k_118_219
def k_118_200 : List CE := (200, .aload_n 0, 1, 0, 0, 0) :: (201, .getfield 19, 3, 4, 2, 1) :: (204, .aload_n 0, 1, 0, 0, 0) :: (205, .getfield 117, 3, 4, 0, 12) :: (208, .aaload, 1, 0, 0, 0) :: (209, .aload_n 0, 1, 0, 0, 0) :: (210, .getfield 34, 3, 4, 2, 3) :: (213, .invokevirtual 273, 3, 111, 1001, 6) :: k_118_216
def k_118_184 : List CE := (184, .iload 6, 2, 0, 0, 0) :: (186, .ifCond .eq 33, 3, 0, 0, 0) :: (189, .aload_n 0, 1, 0, 0, 0) :: (190, .getfield 34, 3, 4, 2, 3) :: (193, .aload_n 0, 1, 0, 0, 0) :: (194, .getfield 49, 3, 4, 2, 8) :: (197, .invokevirtual 259, 3, 106, 2002, 6) :: k_118_200
def k_118_180 : List CE := (180, .aload_n 0, 1, 0, 0, 0) :: (181, .invokevirtual 161, 3, 89, 1001, 5) :: k_118_184
def k_118_175 : List CE := (175, .aload_n 1, 1, 0, 0, 0) :: (176, .iconst 1, 1, 0, 0, 0) :: (177, .invokevirtual 202, 3, 96, 2002, 8) :: k_118_180
def k_118_169 : List CE := (169, .ifCond .ne 6, 3, 0, 0, 0) :: (172, .bipush 6, 2, 0, 0, 0) :: (174, .ireturn, 1, 0, 0, 0) :: k_118_175
def k_118_166 : List CE := (166, .invokevirtual 255, 3, 105, 9005, 5) :: k_118_169
def k_118_156 : List CE := (156, .aload_n 0, 1, 0, 0, 0) :: (157, .getfield 109, 3, 4, 2, 9) :: (160, .iload 5, 2, 0, 0, 0) :: (162, .iconst 3, 1, 0, 0, 0) :: (163, .invokevirtual 318, 3, 120, 3003, 4) :: k_118_166
def k_118_146 : List CE := (146, .aload_n 0, 1, 0, 0, 0) :: (147, .getfield 109, 3, 4, 2, 9) :: (150, .iload 5, 2, 0, 0, 0) :: (152, .iconst 2, 1, 0, 0, 0) :: (153, .invokevirtual 318, 3, 120, 3003, 4) :: k_118_156
def k_118_136 : List CE := (136, .aload_n 0, 1, 0, 0, 0) :: (137, .getfield 109, 3, 4, 2, 9) :: (140, .iload 5, 2, 0, 0, 0) :: (142, .iconst 1, 1, 0, 0, 0) :: (143, .invokevirtual 318, 3, 120, 3003, 4) :: k_118_146
def k_118_120 : List CE := (120, .iload 6, 2, 0, 0, 0) :: (122, .ifCond .eq 53, 3, 0, 0, 0) :: (125, .aload_n 0, 1, 0, 0, 0) :: (126, .aload_n 0, 1, 0, 0, 0) :: (127, .getfield 109, 3, 4, 2, 9) :: (130, .iload 5, 2, 0, 0, 0) :: (132, .iconst 0, 1, 0, 0, 0) :: (133, .invokevirtual 318, 3, 120, 3003, 4) :: k_118_136
def k_118_117 : List CE := (117, .bipush 6, 2, 0, 0, 0) :: (119, .ireturn, 1, 0, 0, 0) :: k_118_120
def k_118_114 : List CE := (114, .ifCond .eq 6, 3, 0, 0, 0) :: k_118_117
def k_118_77 : List CE := (77, .aload_n 0, 1, 0, 0, 0) :: (78, .getfield 109, 3, 4, 2, 9) :: (81, .getfield 314, 3, 3, 2, 1) :: (84, .iload 5, 2, 0, 0, 0) :: (86, .baload, 1, 0, 0, 0) :: (87, .istore 6, 2, 0, 0, 0) :: (89, .aload_n 0, 1, 0, 0, 0) :: (90, .getfield 59, 3, 4, 0, 11) :: (93, .iconst 4, 1, 0, 0, 0) :: (94, .if_icmp .ge 23, 3, 0, 0, 0) :: (97, .iload 6, 2, 0, 0, 0) :: (99, .ifCond .eq 21, 3, 0, 0, 0) :: (102, .aload_n 0, 1, 0, 0, 0) :: (103, .getfield 19, 3, 4, 2, 1) :: (106, .aload_n 0, 1, 0, 0, 0) :: (107, .getfield 117, 3, 4, 0, 12) :: (110, .aaload, 1, 0, 0, 0) :: (111, .invokevirtual 269, 3, 109, 1001, 9) :: k_118_114
def k_118_72 : List CE := (72, .ifCond .eq 5, 3, 0, 0, 0) :: (75, .iconst 4, 1, 0, 0, 0) :: (76, .ireturn, 1, 0, 0, 0) :: k_118_77
def k_118_66 : List CE := (66, .aload_n 0, 1, 0, 0, 0) :: (67, .iload 5, 2, 0, 0, 0) :: (69, .invokevirtual 311, 3, 119, 2002, 5) :: k_118_72
def k_118_64 : List CE := (64, .iconst 3, 1, 0, 0, 0) :: (65, .ireturn, 1, 0, 0, 0) :: k_118_66
def k_118_46 : List CE := (46, .ifCond .eq 18, 3, 0, 0, 0) :: (49, .aload_n 0, 1, 0, 0, 0) :: (50, .getfield 109, 3, 4, 2, 9) :: (53, .getfield 133, 3, 3, 2, 0) :: (56, .iload 5, 2, 0, 0, 0) :: (58, .iconst 1, 1, 0, 0, 0) :: (59, .iadd, 1, 0, 0, 0) :: (60, .aaload, 1, 0, 0, 0) :: (61, .ifnonnull 5, 3, 0, 0, 0) :: k_118_64
def k_118_23 : List CE := (23, .istore 4, 2, 0, 0, 0) :: (25, .iload 4, 2, 0, 0, 0) :: (27, .bipush 100, 2, 0, 0, 0) :: (29, .irem, 1, 0, 0, 0) :: (30, .istore 5, 2, 0, 0, 0) :: (32, .iload 4, 2, 0, 0, 0) :: (34, .bipush 100, 2, 0, 0, 0) :: (36, .idiv, 1, 0, 0, 0) :: (37, .iconst 2, 1, 0, 0, 0) :: (38, .if_icmp .ne 26, 3, 0, 0, 0) :: (41, .iload 5, 2, 0, 0, 0) :: (43, .invokestatic 307, 3, 59, 1001, 0) :: k_118_46
def k_118_20 : List CE := (20, .invokevirtual 296, 3, 116, 2002, 5) :: k_118_23
def k_118_15 : List CE := (15, .aload_n 0, 1, 0, 0, 0) :: (16, .lload_n 2, 1, 0, 0, 0) :: (17, .invokestatic 289, 3, 93, 2001, 0) :: k_118_20
def k_118_10 : List CE := (10, .ifCond .ne 5, 3, 0, 0, 0) :: (13, .iconst 2, 1, 0, 0, 0) :: (14, .ireturn, 1, 0, 0, 0) :: k_118_15
def k_118_5 : List CE := (5, .lstore_n 2, 1, 0, 0, 0) :: (6, .lload_n 2, 1, 0, 0, 0) :: (7, .invokestatic 293, 3, 115, 2001, 0) :: k_118_10
def k_118_0 : List CE := (0, .aload_n 1, 1, 0, 0, 0) :: (1, .iconst 0, 1, 0, 0, 0) :: (2, .invokevirtual 221, 3, 88, 2002, 8) :: k_118_5
/-- PageInterpreter$Machine.isExecuted(I)Z -/
def k_119_31 : List CE := (31, .iconst 0, 1, 0, 0, 0) :: (32, .ireturn, 1, 1, 0, 0) :: []
def k_119_25 : List CE := (25, .iinc 2 1, 3, 0, 0, 0) :: (28, .goto (-26), 3, 0, 0, 0) :: k_119_31
def k_119_2 : List CE := (2, .iload_n 2, 1, 0, 0, 0) :: (3, .aload_n 0, 1, 0, 0, 0) :: (4, .getfield 59, 3, 4, 0, 11) :: (7, .if_icmp .gt 24, 3, 0, 0, 0) :: (10, .aload_n 0, 1, 0, 0, 0) :: (11, .getfield 11, 3, 4, 2, 0) :: (14, .iload_n 2, 1, 0, 0, 0) :: (15, .aaload, 1, 0, 0, 0) :: (16, .getfield 96, 3, 7, 0, 4) :: (19, .iload_n 1, 1, 0, 0, 0) :: (20, .if_icmp .ne 5, 3, 0, 0, 0) :: (23, .iconst 1, 1, 0, 0, 0) :: (24, .ireturn, 1, 1, 0, 0) :: k_119_25
def k_119_0 : List CE := (0, .iconst 1, 1, 0, 0, 0) :: (1, .istore_n 2, 1, 0, 0, 0) :: k_119_2
/-- PageInterpreter$State.findSideOfBox(II)J -/
def k_120_33 : List CE := (33, .lreturn, 1, 0, 0, 0) :: []
def k_120_18 : List CE := (18, .aload_n 0, 1, 0, 0, 0) :: (19, .getfield 21, 3, 3, 2, 2) :: (22, .iload_n 1, 1, 0, 0, 0) :: (23, .iconst 4, 1, 0, 0, 0) :: (24, .imul, 1, 0, 0, 0) :: (25, .iload_n 2, 1, 0, 0, 0) :: (26, .iadd, 1, 0, 0, 0) :: (27, .iaload, 1, 0, 0, 0) :: (28, .i2l, 1, 0, 0, 0) :: (29, .lconst 1, 1, 0, 0, 0) :: (30, .invokestatic 54, 3, 30, 4002, 0) :: k_120_33
def k_120_16 : List CE := (16, .lconst 1, 1, 0, 0, 0) :: (17, .lreturn, 1, 0, 0, 0) :: k_120_18
def k_120_13 : List CE := (13, .ifCond .ne 5, 3, 0, 0, 0) :: k_120_16
def k_120_4 : List CE := (4, .ifCond .eq 12, 3, 0, 0, 0) :: (7, .iload_n 2, 1, 0, 0, 0) :: (8, .iconst 0, 1, 0, 0, 0) :: (9, .iconst 3, 1, 0, 0, 0) :: (10, .invokestatic 48, 3, 15, 3003, 0) :: k_120_13
def k_120_0 : List CE := (0, .iload_n 1, 1, 0, 0, 0) :: (1, .invokestatic 44, 3, 59, 1001, 0) :: k_120_4
/-- PageInterpreter$Machine.repeat(LPageInterpreter$Frame;I)I -/
def k_121_35 : List CE := (35, .iconst 0, 1, 0, 0, 0) :: (36, .ireturn, 1, 0, 0, 0) :: []
def k_121_29 : List CE := (29, .aload_n 1, 1, 0, 0, 0) :: (30, .iload_n 2, 1, 0, 0, 0) :: (31, .iload_n 3, 1, 0, 0, 0) :: (32, .invokevirtual 322, 3, 122, 3003, 8) :: k_121_35
def k_121_23 : List CE := (23, .istore_n 3, 1, 0, 0, 0) :: (24, .aload_n 1, 1, 0, 0, 0) :: (25, .iconst 1, 1, 0, 0, 0) :: (26, .invokevirtual 202, 3, 96, 2002, 8) :: k_121_29
def k_121_20 : List CE := (20, .invokestatic 289, 3, 93, 2001, 0) :: k_121_23
def k_121_15 : List CE := (15, .aload_n 1, 1, 0, 0, 0) :: (16, .iconst 0, 1, 0, 0, 0) :: (17, .invokevirtual 221, 3, 88, 2002, 8) :: k_121_20
def k_121_10 : List CE := (10, .ifCond .ne 5, 3, 0, 0, 0) :: (13, .iconst 2, 1, 0, 0, 0) :: (14, .ireturn, 1, 0, 0, 0) :: k_121_15
def k_121_5 : List CE := (5, .bipush 9, 2, 0, 0, 0) :: (7, .invokestatic 300, 3, 117, 3002, 0) :: k_121_10
def k_121_0 : List CE := (0, .aload_n 1, 1, 0, 0, 0) :: (1, .iconst 0, 1, 0, 0, 0) :: (2, .invokevirtual 221, 3, 88, 2002, 8) :: k_121_5
/-- PageInterpreter$Frame.beginLoop(II)V -/
def k_122_62 : List CE := (62, .return_, 1, 0, 0, 0) :: []
def k_122_22 : List CE := (22, .aload_n 0, 1, 0, 0, 0) :: (23, .getfield 36, 3, 7, 0, 7) :: (26, .iconst 3, 1, 0, 0, 0) :: (27, .if_icmp .ge 35, 3, 0, 0, 0) :: (30, .aload_n 0, 1, 0, 0, 0) :: (31, .getfield 15, 3, 7, 2, 1) :: (34, .aload_n 0, 1, 0, 0, 0) :: (35, .getfield 36, 3, 7, 0, 7) :: (38, .iload_n 1, 1, 0, 0, 0) :: (39, .iconst 1, 1, 0, 0, 0) :: (40, .iadd, 1, 0, 0, 0) :: (41, .iastore, 1, 0, 0, 0) :: (42, .aload_n 0, 1, 0, 0, 0) :: (43, .getfield 19, 3, 7, 2, 2) :: (46, .aload_n 0, 1, 0, 0, 0) :: (47, .getfield 36, 3, 7, 0, 7) :: (50, .iload_n 2, 1, 0, 0, 0) :: (51, .iastore, 1, 0, 0, 0) :: (52, .aload_n 0, 1, 0, 0, 0) :: (53, .dup, 1, 0, 0, 0) :: (54, .getfield 36, 3, 7, 0, 7) :: (57, .iconst 1, 1, 0, 0, 0) :: (58, .iadd, 1, 0, 0, 0) :: (59, .putfield 36, 3, 7, 0, 7) :: k_122_62
def k_122_14 : List CE := (14, .iconst 1, 1, 0, 0, 0) :: (15, .iadd, 1, 0, 0, 0) :: (16, .putfield 30, 3, 7, 0, 5) :: (19, .goto 43, 3, 0, 0, 0) :: k_122_22
def k_122_0 : List CE := (0, .iload_n 2, 1, 0, 0, 0) :: (1, .iconst 1, 1, 0, 0, 0) :: (2, .if_icmp .ge 20, 3, 0, 0, 0) :: (5, .aload_n 0, 1, 0, 0, 0) :: (6, .aload_n 0, 1, 0, 0, 0) :: (7, .getfield 26, 3, 7, 2, 3) :: (10, .iload_n 1, 1, 0, 0, 0) :: (11, .invokevirtual 82, 3, 123, 2002, 10) :: k_122_14
/-- PageInterpreter$Program.findPartner(I)I -/
def k_123_25 : List CE := (25, .ireturn, 1, 0, 0, 0) :: []
def k_123_21 : List CE := (21, .aload_n 0, 1, 0, 0, 0) :: (22, .getfield 16, 3, 9, 0, 3) :: k_123_25
def k_123_0 : List CE := (0, .iload_n 1, 1, 0, 0, 0) :: (1, .ifCond .lt 20, 3, 0, 0, 0) :: (4, .iload_n 1, 1, 0, 0, 0) :: (5, .aload_n 0, 1, 0, 0, 0) :: (6, .getfield 16, 3, 9, 0, 3) :: (9, .if_icmp .ge 12, 3, 0, 0, 0) :: (12, .aload_n 0, 1, 0, 0, 0) :: (13, .getfield 41, 3, 9, 2, 2) :: (16, .iload_n 1, 1, 0, 0, 0) :: (17, .iaload, 1, 0, 0, 0) :: (18, .goto 7, 3, 0, 0, 0) :: k_123_21
/-- PageInterpreter$Machine.duplicate(LPageInterpreter$Frame;)I -/
def k_124_19 : List CE := (19, .iconst 0, 1, 0, 0, 0) :: (20, .ireturn, 1, 0, 0, 0) :: []
def k_124_16 : List CE := (16, .invokevirtual 327, 3, 85, 3002, 8) :: k_124_19
def k_124_10 : List CE := (10, .aload_n 1, 1, 0, 0, 0) :: (11, .aload_n 1, 1, 0, 0, 0) :: (12, .iconst 0, 1, 0, 0, 0) :: (13, .invokevirtual 221, 3, 88, 2002, 8) :: k_124_16
def k_124_4 : List CE := (4, .ifCond .eq 6, 3, 0, 0, 0) :: (7, .bipush 6, 2, 0, 0, 0) :: (9, .ireturn, 1, 0, 0, 0) :: k_124_10
def k_124_0 : List CE := (0, .aload_n 1, 1, 0, 0, 0) :: (1, .invokevirtual 326, 3, 84, 1001, 8) :: k_124_4
/-- PageInterpreter$Machine.exchange(LPageInterpreter$Frame;)V -/
def k_125_29 : List CE := (29, .return_, 1, 0, 0, 0) :: []
def k_125_24 : List CE := (24, .aload_n 1, 1, 0, 0, 0) :: (25, .lload_n 2, 1, 0, 0, 0) :: (26, .invokevirtual 327, 3, 85, 3002, 8) :: k_125_29
def k_125_18 : List CE := (18, .aload_n 1, 1, 0, 0, 0) :: (19, .lload 4, 2, 0, 0, 0) :: (21, .invokevirtual 327, 3, 85, 3002, 8) :: k_125_24
def k_125_11 : List CE := (11, .lstore 4, 2, 0, 0, 0) :: (13, .aload_n 1, 1, 0, 0, 0) :: (14, .iconst 2, 1, 0, 0, 0) :: (15, .invokevirtual 202, 3, 96, 2002, 8) :: k_125_18
def k_125_5 : List CE := (5, .lstore_n 2, 1, 0, 0, 0) :: (6, .aload_n 1, 1, 0, 0, 0) :: (7, .iconst 0, 1, 0, 0, 0) :: (8, .invokevirtual 221, 3, 88, 2002, 8) :: k_125_11
def k_125_0 : List CE := (0, .aload_n 1, 1, 0, 0, 0) :: (1, .iconst 1, 1, 0, 0, 0) :: (2, .invokevirtual 221, 3, 88, 2002, 8) :: k_125_5
/-- PageInterpreter$Machine.calculate(LPageInterpreter$Operator;LPageInterpreter$Frame;)I -/
def k_126_61 : List CE := (61, .iconst 0, 1, 0, 0, 0) :: (62, .ireturn, 1, 0, 0, 0) :: []
def k_126_55 : List CE := (55, .aload_n 2, 1, 0, 0, 0) :: (56, .lload 7, 2, 0, 0, 0) :: (58, .invokevirtual 327, 3, 85, 3002, 8) :: k_126_61
def k_126_50 : List CE := (50, .aload_n 2, 1, 0, 0, 0) :: (51, .iconst 2, 1, 0, 0, 0) :: (52, .invokevirtual 202, 3, 96, 2002, 8) :: k_126_55
def k_126_44 : List CE := (44, .ifCond .ne 6, 3, 0, 0, 0) :: (47, .bipush 6, 2, 0, 0, 0) :: (49, .ireturn, 1, 0, 0, 0) :: k_126_50
def k_126_37 : List CE := (37, .lstore 7, 2, 0, 0, 0) :: (39, .lload 7, 2, 0, 0, 0) :: (41, .invokestatic 234, 3, 31, 2001, 0) :: k_126_44
def k_126_30 : List CE := (30, .aload_n 1, 1, 0, 0, 0) :: (31, .lload_n 3, 1, 0, 0, 0) :: (32, .lload 5, 2, 0, 0, 0) :: (34, .invokestatic 334, 3, 127, 5003, 0) :: k_126_37
def k_126_25 : List CE := (25, .ifCond .ne 5, 3, 0, 0, 0) :: (28, .iconst 5, 1, 0, 0, 0) :: (29, .ireturn, 1, 0, 0, 0) :: k_126_30
def k_126_11 : List CE := (11, .lstore 5, 2, 0, 0, 0) :: (13, .aload_n 1, 1, 0, 0, 0) :: (14, .getstatic 331, 3, 25, 2, 0) :: (17, .if_acmp .ne 13, 3, 0, 0, 0) :: (20, .lload 5, 2, 0, 0, 0) :: (22, .invokestatic 289, 3, 93, 2001, 0) :: k_126_25
def k_126_5 : List CE := (5, .lstore_n 3, 1, 0, 0, 0) :: (6, .aload_n 2, 1, 0, 0, 0) :: (7, .iconst 0, 1, 0, 0, 0) :: (8, .invokevirtual 221, 3, 88, 2002, 8) :: k_126_11
def k_126_0 : List CE := (0, .aload_n 2, 1, 0, 0, 0) :: (1, .iconst 1, 1, 0, 0, 0) :: (2, .invokevirtual 221, 3, 88, 2002, 8) :: k_126_5
/-- PageInterpreter$Machine.apply(LPageInterpreter$Operator;JJ)J -/
def k_127_59 : List CE := (59, .lreturn, 1, 0, 0, 0) :: []
def k_127_54 : List CE := (54, .lload_n 1, 1, 0, 0, 0) :: (55, .lload_n 3, 1, 0, 0, 0) :: (56, .invokestatic 341, 3, 129, 4002, 0) :: k_127_59
def k_127_53 : List CE := (53, .lreturn, 1, 0, 0, 0) :: k_127_54
def k_127_48 : List CE := (48, .lload_n 1, 1, 0, 0, 0) :: (49, .lload_n 3, 1, 0, 0, 0) :: (50, .invokestatic 225, 3, 92, 4002, 0) :: k_127_53
def k_127_47 : List CE := (47, .lreturn, 1, 0, 0, 0) :: k_127_48
def k_127_42 : List CE := (42, .lload_n 1, 1, 0, 0, 0) :: (43, .lload_n 3, 1, 0, 0, 0) :: (44, .invokestatic 338, 3, 128, 4002, 0) :: k_127_47
def k_127_41 : List CE := (41, .lreturn, 1, 0, 0, 0) :: k_127_42
def k_127_36 : List CE := (36, .lload_n 1, 1, 0, 0, 0) :: (37, .lload_n 3, 1, 0, 0, 0) :: (38, .invokestatic 231, 3, 95, 4002, 0) :: k_127_41
def k_127_7 : List CE := (7, .iaload, 1, 0, 0, 0) :: (8, .tableswitch 46 20 22 #[28, 34, 40], 28, 0, 0, 0) :: k_127_36
def k_127_0 : List CE := (0, .getstatic 152, 3, 1, 2, 0) :: (3, .aload_n 0, 1, 0, 0, 0) :: (4, .invokevirtual 157, 3, 42, 1001, 41) :: k_127_7
/-- PageInterpreter$Fraction.difference(JJ)J -/
def k_128_63 : List CE := (63, .lreturn, 1, 0, 0, 0) :: []
def k_128_58 : List CE := (58, .i2l, 1, 0, 0, 0) :: (59, .lmul, 1, 0, 0, 0) :: (60, .invokestatic 26, 3, 30, 4002, 0) :: k_128_63
def k_128_53 : List CE := (53, .i2l, 1, 0, 0, 0) :: (54, .lload_n 2, 1, 0, 0, 0) :: (55, .invokestatic 9, 3, 94, 2001, 0) :: k_128_58
def k_128_40 : List CE := (40, .i2l, 1, 0, 0, 0) :: (41, .lmul, 1, 0, 0, 0) :: (42, .lstore 6, 2, 0, 0, 0) :: (44, .lload 4, 2, 0, 0, 0) :: (46, .lload 6, 2, 0, 0, 0) :: (48, .lsub, 1, 0, 0, 0) :: (49, .lload_n 0, 1, 0, 0, 0) :: (50, .invokestatic 9, 3, 94, 2001, 0) :: k_128_53
def k_128_35 : List CE := (35, .i2l, 1, 0, 0, 0) :: (36, .lload_n 0, 1, 0, 0, 0) :: (37, .invokestatic 9, 3, 94, 2001, 0) :: k_128_40
def k_128_27 : List CE := (27, .i2l, 1, 0, 0, 0) :: (28, .lmul, 1, 0, 0, 0) :: (29, .lstore 4, 2, 0, 0, 0) :: (31, .lload_n 2, 1, 0, 0, 0) :: (32, .invokestatic 13, 3, 93, 2001, 0) :: k_128_35
def k_128_22 : List CE := (22, .i2l, 1, 0, 0, 0) :: (23, .lload_n 2, 1, 0, 0, 0) :: (24, .invokestatic 9, 3, 94, 2001, 0) :: k_128_27
def k_128_18 : List CE := (18, .lload_n 0, 1, 0, 0, 0) :: (19, .invokestatic 13, 3, 93, 2001, 0) :: k_128_22
def k_128_14 : List CE := (14, .ldc2_w 16, 3, 0, 0, (-1)) :: (17, .lreturn, 1, 0, 0, 0) :: k_128_18
def k_128_11 : List CE := (11, .ifCond .ne 7, 3, 0, 0, 0) :: k_128_14
def k_128_4 : List CE := (4, .ifCond .eq 10, 3, 0, 0, 0) :: (7, .lload_n 2, 1, 0, 0, 0) :: (8, .invokestatic 22, 3, 31, 2001, 0) :: k_128_11
def k_128_0 : List CE := (0, .lload_n 0, 1, 0, 0, 0) :: (1, .invokestatic 22, 3, 31, 2001, 0) :: k_128_4
/-- PageInterpreter$Fraction.quotient(JJ)J -/
def k_129_47 : List CE := (47, .lreturn, 1, 0, 0, 0) :: []
def k_129_42 : List CE := (42, .i2l, 1, 0, 0, 0) :: (43, .lmul, 1, 0, 0, 0) :: (44, .invokestatic 26, 3, 30, 4002, 0) :: k_129_47
def k_129_37 : List CE := (37, .i2l, 1, 0, 0, 0) :: (38, .lload_n 2, 1, 0, 0, 0) :: (39, .invokestatic 13, 3, 93, 2001, 0) :: k_129_42
def k_129_27 : List CE := (27, .i2l, 1, 0, 0, 0) :: (28, .lmul, 1, 0, 0, 0) :: (29, .lstore 4, 2, 0, 0, 0) :: (31, .lload 4, 2, 0, 0, 0) :: (33, .lload_n 0, 1, 0, 0, 0) :: (34, .invokestatic 9, 3, 94, 2001, 0) :: k_129_37
def k_129_22 : List CE := (22, .i2l, 1, 0, 0, 0) :: (23, .lload_n 2, 1, 0, 0, 0) :: (24, .invokestatic 9, 3, 94, 2001, 0) :: k_129_27
def k_129_18 : List CE := (18, .lload_n 0, 1, 0, 0, 0) :: (19, .invokestatic 13, 3, 93, 2001, 0) :: k_129_22
def k_129_14 : List CE := (14, .ldc2_w 16, 3, 0, 0, (-1)) :: (17, .lreturn, 1, 0, 0, 0) :: k_129_18
def k_129_11 : List CE := (11, .ifCond .ne 7, 3, 0, 0, 0) :: k_129_14
def k_129_4 : List CE := (4, .ifCond .eq 10, 3, 0, 0, 0) :: (7, .lload_n 2, 1, 0, 0, 0) :: (8, .invokestatic 22, 3, 31, 2001, 0) :: k_129_11
def k_129_0 : List CE := (0, .lload_n 0, 1, 0, 0, 0) :: (1, .invokestatic 22, 3, 31, 2001, 0) :: k_129_4
/-- PageInterpreter$Machine.count(III)V -/
def k_130_50 : List CE := (50, .return_, 1, 0, 0, 0) :: []
def k_130_0 : List CE := (0, .aload_n 0, 1, 0, 0, 0) :: (1, .getfield 120, 3, 4, 0, 13) :: (4, .sipush 200, 3, 0, 0, 0) :: (7, .if_icmp .ge 43, 3, 0, 0, 0) :: (10, .aload_n 0, 1, 0, 0, 0) :: (11, .getfield 35, 3, 4, 2, 4) :: (14, .aload_n 0, 1, 0, 0, 0) :: (15, .getfield 120, 3, 4, 0, 13) :: (18, .iload_n 1, 1, 0, 0, 0) :: (19, .iastore, 1, 0, 0, 0) :: (20, .aload_n 0, 1, 0, 0, 0) :: (21, .getfield 39, 3, 4, 2, 5) :: (24, .aload_n 0, 1, 0, 0, 0) :: (25, .getfield 120, 3, 4, 0, 13) :: (28, .iload_n 2, 1, 0, 0, 0) :: (29, .iastore, 1, 0, 0, 0) :: (30, .aload_n 0, 1, 0, 0, 0) :: (31, .getfield 42, 3, 4, 2, 6) :: (34, .aload_n 0, 1, 0, 0, 0) :: (35, .getfield 120, 3, 4, 0, 13) :: (38, .iload_n 3, 1, 0, 0, 0) :: (39, .iastore, 1, 0, 0, 0) :: (40, .aload_n 0, 1, 0, 0, 0) :: (41, .dup, 1, 0, 0, 0) :: (42, .getfield 120, 3, 4, 0, 13) :: (45, .iconst 1, 1, 0, 0, 0) :: (46, .iadd, 1, 0, 0, 0) :: (47, .putfield 120, 3, 4, 0, 13) :: k_130_50
/-- PageInterpreter.result(I)I -/
def k_131_36 : List CE := (36, .ireturn, 1, 0, 0, 0) :: []
def k_131_34 : List CE := (34, .ldc 81, 2, 0, 0, (-10000002)) :: k_131_36
def k_131_31 : List CE := (31, .goto 5, 3, 0, 0, 0) :: k_131_34
def k_131_13 : List CE := (13, .aload_n 0, 1, 0, 0, 0) :: (14, .getfield 30, 3, 0, 2, 3) :: (17, .getfield 120, 3, 4, 3, 10) :: (20, .ifCond .eq 14, 3, 0, 0, 0) :: (23, .aload_n 0, 1, 0, 0, 0) :: (24, .getfield 30, 3, 0, 2, 3) :: (27, .iload_n 1, 1, 0, 0, 0) :: (28, .invokevirtual 124, 3, 132, 2002, 5) :: k_131_31
def k_131_7 : List CE := (7, .ifCond .ne 6, 3, 0, 0, 0) :: (10, .ldc 34, 2, 0, 0, (-10000001)) :: (12, .ireturn, 1, 0, 0, 0) :: k_131_13
def k_131_0 : List CE := (0, .iload_n 1, 1, 0, 0, 0) :: (1, .iconst 0, 1, 0, 0, 0) :: (2, .bipush 6, 2, 0, 0, 0) :: (4, .invokestatic 96, 3, 15, 3003, 0) :: k_131_7
/-- PageInterpreter$Machine.findNumber(I)I -/
def k_132_99 : List CE := (99, .aload_n 0, 1, 0, 0, 0) :: (100, .getfield 11, 3, 4, 2, 0) :: (103, .iconst 0, 1, 0, 0, 0) :: (104, .aaload, 1, 0, 0, 0) :: (105, .getfield 345, 3, 7, 0, 6) :: (108, .ireturn, 1, 0, 0, 0) :: []
def k_132_94 : List CE := (94, .aload_n 0, 1, 0, 0, 0) :: (95, .getfield 123, 3, 4, 0, 14) :: (98, .ireturn, 1, 0, 0, 0) :: k_132_99
def k_132_86 : List CE := (86, .aload_n 0, 1, 0, 0, 0) :: (87, .getfield 26, 3, 4, 2, 2) :: (90, .getfield 130, 3, 6, 0, 8) :: (93, .ireturn, 1, 0, 0, 0) :: k_132_94
def k_132_81 : List CE := (81, .aload_n 0, 1, 0, 0, 0) :: (82, .getfield 120, 3, 4, 0, 13) :: (85, .ireturn, 1, 0, 0, 0) :: k_132_86
def k_132_80 : List CE := (80, .ireturn, 1, 0, 0, 0) :: k_132_81
def k_132_76 : List CE := (76, .aload_n 0, 1, 0, 0, 0) :: (77, .getfield 102, 3, 4, 0, 17) :: k_132_80
def k_132_63 : List CE := (63, .aload_n 0, 1, 0, 0, 0) :: (64, .getfield 89, 3, 4, 0, 15) :: (67, .ifCond .ne 9, 3, 0, 0, 0) :: (70, .ldc_w 344, 3, 0, 0, (-10000009)) :: (73, .goto 7, 3, 0, 0, 0) :: k_132_76
def k_132_62 : List CE := (62, .ireturn, 1, 0, 0, 0) :: k_132_63
def k_132_58 : List CE := (58, .aload_n 0, 1, 0, 0, 0) :: (59, .getfield 99, 3, 4, 0, 16) :: k_132_62
def k_132_45 : List CE := (45, .aload_n 0, 1, 0, 0, 0) :: (46, .getfield 89, 3, 4, 0, 15) :: (49, .ifCond .ne 9, 3, 0, 0, 0) :: (52, .ldc_w 344, 3, 0, 0, (-10000009)) :: (55, .goto 7, 3, 0, 0, 0) :: k_132_58
def k_132_40 : List CE := (40, .aload_n 0, 1, 0, 0, 0) :: (41, .getfield 89, 3, 4, 0, 15) :: (44, .ireturn, 1, 0, 0, 0) :: k_132_45
def k_132_0 : List CE := (0, .iload_n 1, 1, 0, 0, 0) :: (1, .tableswitch 98 0 5 #[39, 44, 62, 80, 85, 93], 39, 0, 0, 0) :: k_132_40
/-- PageInterpreter.operand(II)I -/
def k_133_40 : List CE := (40, .ireturn, 1, 0, 0, 0) :: []
def k_133_38 : List CE := (38, .ldc 81, 2, 0, 0, (-10000002)) :: k_133_40
def k_133_35 : List CE := (35, .goto 5, 3, 0, 0, 0) :: k_133_38
def k_133_16 : List CE := (16, .aload_n 0, 1, 0, 0, 0) :: (17, .getfield 30, 3, 0, 2, 3) :: (20, .getfield 120, 3, 4, 3, 10) :: (23, .ifCond .eq 15, 3, 0, 0, 0) :: (26, .aload_n 0, 1, 0, 0, 0) :: (27, .getfield 30, 3, 0, 2, 3) :: (30, .iload_n 1, 1, 0, 0, 0) :: (31, .iload_n 2, 1, 0, 0, 0) :: (32, .invokevirtual 128, 3, 134, 3003, 5) :: k_133_35
def k_133_13 : List CE := (13, .ldc 34, 2, 0, 0, (-10000001)) :: (15, .ireturn, 1, 0, 0, 0) :: k_133_16
def k_133_10 : List CE := (10, .ifCond .ne 6, 3, 0, 0, 0) :: k_133_13
def k_133_0 : List CE := (0, .iload_n 1, 1, 0, 0, 0) :: (1, .ifCond .lt 12, 3, 0, 0, 0) :: (4, .iload_n 2, 1, 0, 0, 0) :: (5, .iconst 0, 1, 0, 0, 0) :: (6, .iconst 1, 1, 0, 0, 0) :: (7, .invokestatic 96, 3, 15, 3003, 0) :: k_133_10
/-- PageInterpreter$Machine.findOperand(II)I -/
def k_134_43 : List CE := (43, .ireturn, 1, 0, 0, 0) :: []
def k_134_40 : List CE := (40, .ldc_w 344, 3, 0, 0, (-10000009)) :: k_134_43
def k_134_37 : List CE := (37, .goto 6, 3, 0, 0, 0) :: k_134_40
def k_134_33 : List CE := (33, .iload_n 2, 1, 0, 0, 0) :: (34, .invokestatic 348, 3, 135, 3002, 0) :: k_134_37
def k_134_0 : List CE := (0, .aload_n 0, 1, 0, 0, 0) :: (1, .getfield 11, 3, 4, 2, 0) :: (4, .iconst 0, 1, 0, 0, 0) :: (5, .aaload, 1, 0, 0, 0) :: (6, .getfield 345, 3, 7, 0, 6) :: (9, .istore_n 3, 1, 0, 0, 0) :: (10, .iload_n 1, 1, 0, 0, 0) :: (11, .ifCond .lt 29, 3, 0, 0, 0) :: (14, .iload_n 1, 1, 0, 0, 0) :: (15, .iload_n 3, 1, 0, 0, 0) :: (16, .if_icmp .ge 24, 3, 0, 0, 0) :: (19, .aload_n 0, 1, 0, 0, 0) :: (20, .getfield 11, 3, 4, 2, 0) :: (23, .iconst 0, 1, 0, 0, 0) :: (24, .aaload, 1, 0, 0, 0) :: (25, .iload_n 3, 1, 0, 0, 0) :: (26, .iconst 1, 1, 0, 0, 0) :: (27, .isub, 1, 0, 0, 0) :: (28, .iload_n 1, 1, 0, 0, 0) :: (29, .isub, 1, 0, 0, 0) :: (30, .invokevirtual 221, 3, 88, 2002, 8) :: k_134_33
/-- PageInterpreter$Machine.findPart(JI)I -/
def k_135_15 : List CE := (15, .ireturn, 1, 0, 0, 0) :: []
def k_135_11 : List CE := (11, .lload_n 0, 1, 0, 0, 0) :: (12, .invokestatic 356, 3, 94, 2001, 0) :: k_135_15
def k_135_8 : List CE := (8, .goto 7, 3, 0, 0, 0) :: k_135_11
def k_135_0 : List CE := (0, .iload_n 2, 1, 0, 0, 0) :: (1, .ifCond .ne 10, 3, 0, 0, 0) :: (4, .lload_n 0, 1, 0, 0, 0) :: (5, .invokestatic 289, 3, 93, 2001, 0) :: k_135_8
/-- PageInterpreter.matrix(II)I -/
def k_136_45 : List CE := (45, .ireturn, 1, 0, 0, 0) :: []
def k_136_43 : List CE := (43, .ldc 81, 2, 0, 0, (-10000002)) :: k_136_45
def k_136_40 : List CE := (40, .goto 5, 3, 0, 0, 0) :: k_136_43
def k_136_21 : List CE := (21, .aload_n 0, 1, 0, 0, 0) :: (22, .getfield 30, 3, 0, 2, 3) :: (25, .getfield 120, 3, 4, 3, 10) :: (28, .ifCond .eq 15, 3, 0, 0, 0) :: (31, .aload_n 0, 1, 0, 0, 0) :: (32, .getfield 30, 3, 0, 2, 3) :: (35, .iload_n 1, 1, 0, 0, 0) :: (36, .iload_n 2, 1, 0, 0, 0) :: (37, .invokevirtual 131, 3, 137, 3003, 5) :: k_136_40
def k_136_18 : List CE := (18, .ldc 34, 2, 0, 0, (-10000001)) :: (20, .ireturn, 1, 0, 0, 0) :: k_136_21
def k_136_15 : List CE := (15, .ifCond .ne 6, 3, 0, 0, 0) :: k_136_18
def k_136_6 : List CE := (6, .ifCond .eq 12, 3, 0, 0, 0) :: (9, .iload_n 2, 1, 0, 0, 0) :: (10, .iconst 0, 1, 0, 0, 0) :: (11, .iconst 1, 1, 0, 0, 0) :: (12, .invokestatic 96, 3, 15, 3003, 0) :: k_136_15
def k_136_0 : List CE := (0, .iload_n 1, 1, 0, 0, 0) :: (1, .iconst 0, 1, 0, 0, 0) :: (2, .iconst 5, 1, 0, 0, 0) :: (3, .invokestatic 96, 3, 15, 3003, 0) :: k_136_6
/-- PageInterpreter$Machine.findEntry(II)I -/
def k_137_33 : List CE := (33, .ireturn, 1, 0, 0, 0) :: []
def k_137_30 : List CE := (30, .ldc_w 344, 3, 0, 0, (-10000009)) :: k_137_33
def k_137_27 : List CE := (27, .goto 6, 3, 0, 0, 0) :: k_137_30
def k_137_6 : List CE := (6, .ifCond .eq 24, 3, 0, 0, 0) :: (9, .aload_n 0, 1, 0, 0, 0) :: (10, .getfield 19, 3, 4, 2, 1) :: (13, .aload_n 0, 1, 0, 0, 0) :: (14, .getfield 117, 3, 4, 0, 12) :: (17, .aaload, 1, 0, 0, 0) :: (18, .getfield 218, 3, 8, 2, 0) :: (21, .iload_n 1, 1, 0, 0, 0) :: (22, .laload, 1, 0, 0, 0) :: (23, .iload_n 2, 1, 0, 0, 0) :: (24, .invokestatic 348, 3, 135, 3002, 0) :: k_137_27
def k_137_0 : List CE := (0, .iload_n 1, 1, 0, 0, 0) :: (1, .iconst 0, 1, 0, 0, 0) :: (2, .iconst 5, 1, 0, 0, 0) :: (3, .invokestatic 352, 3, 15, 3003, 0) :: k_137_6
/-- PageInterpreter.trace(II)I -/
def k_138_40 : List CE := (40, .ireturn, 1, 0, 0, 0) :: []
def k_138_38 : List CE := (38, .ldc 81, 2, 0, 0, (-10000002)) :: k_138_40
def k_138_35 : List CE := (35, .goto 5, 3, 0, 0, 0) :: k_138_38
def k_138_16 : List CE := (16, .aload_n 0, 1, 0, 0, 0) :: (17, .getfield 30, 3, 0, 2, 3) :: (20, .getfield 120, 3, 4, 3, 10) :: (23, .ifCond .eq 15, 3, 0, 0, 0) :: (26, .aload_n 0, 1, 0, 0, 0) :: (27, .getfield 30, 3, 0, 2, 3) :: (30, .iload_n 1, 1, 0, 0, 0) :: (31, .iload_n 2, 1, 0, 0, 0) :: (32, .invokevirtual 134, 3, 139, 3003, 5) :: k_138_35
def k_138_13 : List CE := (13, .ldc 34, 2, 0, 0, (-10000001)) :: (15, .ireturn, 1, 0, 0, 0) :: k_138_16
def k_138_10 : List CE := (10, .ifCond .ne 6, 3, 0, 0, 0) :: k_138_13
def k_138_0 : List CE := (0, .iload_n 1, 1, 0, 0, 0) :: (1, .ifCond .lt 12, 3, 0, 0, 0) :: (4, .iload_n 2, 1, 0, 0, 0) :: (5, .iconst 0, 1, 0, 0, 0) :: (6, .iconst 2, 1, 0, 0, 0) :: (7, .invokestatic 96, 3, 15, 3003, 0) :: k_138_10
/-- PageInterpreter$Machine.findCounted(II)I -/
def k_139_66 : List CE := (66, .aload_n 0, 1, 0, 0, 0) :: (67, .getfield 42, 3, 4, 2, 6) :: (70, .iload_n 1, 1, 0, 0, 0) :: (71, .iaload, 1, 0, 0, 0) :: (72, .ireturn, 1, 0, 0, 0) :: []
def k_139_59 : List CE := (59, .aload_n 0, 1, 0, 0, 0) :: (60, .getfield 39, 3, 4, 2, 5) :: (63, .iload_n 1, 1, 0, 0, 0) :: (64, .iaload, 1, 0, 0, 0) :: (65, .ireturn, 1, 0, 0, 0) :: k_139_66
def k_139_52 : List CE := (52, .aload_n 0, 1, 0, 0, 0) :: (53, .getfield 35, 3, 4, 2, 4) :: (56, .iload_n 1, 1, 0, 0, 0) :: (57, .iaload, 1, 0, 0, 0) :: (58, .ireturn, 1, 0, 0, 0) :: k_139_59
def k_139_23 : List CE := (23, .iload_n 2, 1, 0, 0, 0) :: (24, .lookupswitch 42 #[(0, 28), (1, 35)], 28, 0, 0, 0) :: k_139_52
def k_139_19 : List CE := (19, .ldc_w 344, 3, 0, 0, (-10000009)) :: (22, .ireturn, 1, 0, 0, 0) :: k_139_23
def k_139_0 : List CE := (0, .iload_n 1, 1, 0, 0, 0) :: (1, .ifCond .lt 18, 3, 0, 0, 0) :: (4, .iload_n 1, 1, 0, 0, 0) :: (5, .aload_n 0, 1, 0, 0, 0) :: (6, .getfield 120, 3, 4, 0, 13) :: (9, .if_icmp .ge 10, 3, 0, 0, 0) :: (12, .iload_n 1, 1, 0, 0, 0) :: (13, .sipush 200, 3, 0, 0, 0) :: (16, .if_icmp .lt 7, 3, 0, 0, 0) :: k_139_19
/-- PageInterpreter.cell(II)I -/
def k_140_50 : List CE := (50, .ireturn, 1, 0, 0, 0) :: []
def k_140_47 : List CE := (47, .invokevirtual 153, 3, 150, 2002, 7) :: k_140_50
def k_140_28 : List CE := (28, .aload_n 0, 1, 0, 0, 0) :: (29, .getfield 30, 3, 0, 2, 3) :: (32, .getfield 140, 3, 4, 2, 2) :: (35, .astore_n 3, 1, 0, 0, 0) :: (36, .aload_n 3, 1, 0, 0, 0) :: (37, .aload_n 3, 1, 0, 0, 0) :: (38, .iload_n 1, 1, 0, 0, 0) :: (39, .iload_n 2, 1, 0, 0, 0) :: (40, .aload_n 3, 1, 0, 0, 0) :: (41, .getfield 144, 3, 6, 0, 8) :: (44, .invokevirtual 149, 3, 142, 4004, 7) :: k_140_47
def k_140_15 : List CE := (15, .aload_n 0, 1, 0, 0, 0) :: (16, .getfield 30, 3, 0, 2, 3) :: (19, .getfield 120, 3, 4, 3, 10) :: (22, .ifCond .ne 6, 3, 0, 0, 0) :: (25, .ldc 81, 2, 0, 0, (-10000002)) :: (27, .ireturn, 1, 0, 0, 0) :: k_140_28
def k_140_9 : List CE := (9, .ifCond .ne 6, 3, 0, 0, 0) :: (12, .ldc 34, 2, 0, 0, (-10000001)) :: (14, .ireturn, 1, 0, 0, 0) :: k_140_15
def k_140_0 : List CE := (0, .aload_n 0, 1, 0, 0, 0) :: (1, .getfield 19, 3, 0, 2, 1) :: (4, .iload_n 1, 1, 0, 0, 0) :: (5, .iload_n 2, 1, 0, 0, 0) :: (6, .invokevirtual 137, 3, 141, 3003, 4) :: k_140_9
/-- PageInterpreter$State.hasCell(II)Z -/
def k_141_29 : List CE := (29, .ireturn, 1, 1, 0, 0) :: []
def k_141_28 : List CE := (28, .iconst 0, 1, 0, 0, 0) :: k_141_29
def k_141_0 : List CE := (0, .iload_n 1, 1, 0, 0, 0) :: (1, .ifCond .lt 27, 3, 0, 0, 0) :: (4, .iload_n 1, 1, 0, 0, 0) :: (5, .aload_n 0, 1, 0, 0, 0) :: (6, .getfield 28, 3, 3, 0, 4) :: (9, .if_icmp .ge 19, 3, 0, 0, 0) :: (12, .iload_n 2, 1, 0, 0, 0) :: (13, .ifCond .lt 15, 3, 0, 0, 0) :: (16, .iload_n 2, 1, 0, 0, 0) :: (17, .aload_n 0, 1, 0, 0, 0) :: (18, .getfield 32, 3, 3, 0, 5) :: (21, .if_icmp .ge 7, 3, 0, 0, 0) :: (24, .iconst 1, 1, 0, 0, 0) :: (25, .goto 4, 3, 0, 0, 0) :: k_141_28
/-- PageInterpreter$Items.latestAt(III)I -/
def k_142_30 : List CE := (30, .iconst (-1), 1, 0, 0, 0) :: (31, .ireturn, 1, 0, 0, 0) :: []
def k_142_24 : List CE := (24, .iinc 4 (-1), 3, 0, 0, 0) :: (27, .goto (-22), 3, 0, 0, 0) :: k_142_30
def k_142_18 : List CE := (18, .ifCond .eq 6, 3, 0, 0, 0) :: (21, .iload 4, 2, 0, 0, 0) :: (23, .ireturn, 1, 0, 0, 0) :: k_142_24
def k_142_5 : List CE := (5, .iload 4, 2, 0, 0, 0) :: (7, .ifCond .lt 23, 3, 0, 0, 0) :: (10, .aload_n 0, 1, 0, 0, 0) :: (11, .iload 4, 2, 0, 0, 0) :: (13, .iload_n 1, 1, 0, 0, 0) :: (14, .iload_n 2, 1, 0, 0, 0) :: (15, .invokevirtual 71, 3, 143, 4004, 7) :: k_142_18
def k_142_0 : List CE := (0, .iload_n 3, 1, 0, 0, 0) :: (1, .iconst 1, 1, 0, 0, 0) :: (2, .isub, 1, 0, 0, 0) :: (3, .istore 4, 2, 0, 0, 0) :: k_142_5
/-- PageInterpreter$Items.coversCell(III)Z -/
def k_143_122 : List CE := (122, .iconst 1, 1, 0, 0, 0) :: (123, .ireturn, 1, 1, 0, 0) :: []
def k_143_116 : List CE := (116, .iinc 6 1, 3, 0, 0, 0) :: (119, .goto (-62), 3, 0, 0, 0) :: k_143_122
def k_143_111 : List CE := (111, .ifCond .ne 5, 3, 0, 0, 0) :: (114, .iconst 0, 1, 0, 0, 0) :: (115, .ireturn, 1, 1, 0, 0) :: k_143_116
def k_143_104 : List CE := (104, .iload 4, 2, 0, 0, 0) :: (106, .iload 5, 2, 0, 0, 0) :: (108, .invokevirtual 64, 3, 145, 5005, 6) :: k_143_111
def k_143_57 : List CE := (57, .iload 6, 2, 0, 0, 0) :: (59, .aload_n 0, 1, 0, 0, 0) :: (60, .getfield 35, 3, 6, 2, 6) :: (63, .iload_n 1, 1, 0, 0, 0) :: (64, .iaload, 1, 0, 0, 0) :: (65, .if_icmp .ge 57, 3, 0, 0, 0) :: (68, .iload 6, 2, 0, 0, 0) :: (70, .bipush 6, 2, 0, 0, 0) :: (72, .if_icmp .ge 50, 3, 0, 0, 0) :: (75, .aload_n 0, 1, 0, 0, 0) :: (76, .getfield 38, 3, 6, 2, 7) :: (79, .iload_n 1, 1, 0, 0, 0) :: (80, .bipush 6, 2, 0, 0, 0) :: (82, .imul, 1, 0, 0, 0) :: (83, .iload 6, 2, 0, 0, 0) :: (85, .iadd, 1, 0, 0, 0) :: (86, .iaload, 1, 0, 0, 0) :: (87, .istore 7, 2, 0, 0, 0) :: (89, .aload_n 0, 1, 0, 0, 0) :: (90, .getfield 12, 3, 6, 2, 0) :: (93, .iload 7, 2, 0, 0, 0) :: (95, .aload_n 0, 1, 0, 0, 0) :: (96, .getfield 12, 3, 6, 2, 0) :: (99, .iload 7, 2, 0, 0, 0) :: (101, .invokevirtual 68, 3, 149, 2002, 6) :: k_143_104
def k_143_54 : List CE := (54, .iconst 0, 1, 0, 0, 0) :: (55, .istore 6, 2, 0, 0, 0) :: k_143_57
def k_143_52 : List CE := (52, .iconst 0, 1, 0, 0, 0) :: (53, .ireturn, 1, 1, 0, 0) :: k_143_54
def k_143_49 : List CE := (49, .ifCond .ne 5, 3, 0, 0, 0) :: k_143_52
def k_143_23 : List CE := (23, .ifCond .eq 29, 3, 0, 0, 0) :: (26, .aload_n 0, 1, 0, 0, 0) :: (27, .getfield 12, 3, 6, 2, 0) :: (30, .aload_n 0, 1, 0, 0, 0) :: (31, .getfield 18, 3, 6, 2, 1) :: (34, .iload_n 1, 1, 0, 0, 0) :: (35, .iaload, 1, 0, 0, 0) :: (36, .aload_n 0, 1, 0, 0, 0) :: (37, .getfield 22, 3, 6, 2, 2) :: (40, .iload_n 1, 1, 0, 0, 0) :: (41, .baload, 1, 0, 0, 0) :: (42, .iload 4, 2, 0, 0, 0) :: (44, .iload 5, 2, 0, 0, 0) :: (46, .invokevirtual 64, 3, 145, 5005, 6) :: k_143_49
def k_143_0 : List CE := (0, .bipush 16, 2, 0, 0, 0) :: (2, .iload_n 2, 1, 0, 0, 0) :: (3, .imul, 1, 0, 0, 0) :: (4, .bipush 8, 2, 0, 0, 0) :: (6, .iadd, 1, 0, 0, 0) :: (7, .istore 4, 2, 0, 0, 0) :: (9, .bipush 16, 2, 0, 0, 0) :: (11, .iload_n 3, 1, 0, 0, 0) :: (12, .imul, 1, 0, 0, 0) :: (13, .bipush 8, 2, 0, 0, 0) :: (15, .iadd, 1, 0, 0, 0) :: (16, .istore 5, 2, 0, 0, 0) :: (18, .aload_n 0, 1, 0, 0, 0) :: (19, .iload_n 1, 1, 0, 0, 0) :: (20, .invokevirtual 60, 3, 144, 2002, 7) :: k_143_23
/-- PageInterpreter$Items.has(I)Z -/
def k_144_23 : List CE := (23, .ireturn, 1, 1, 0, 0) :: []
def k_144_22 : List CE := (22, .iconst 0, 1, 0, 0, 0) :: k_144_23
def k_144_0 : List CE := (0, .iload_n 1, 1, 0, 0, 0) :: (1, .ifCond .lt 21, 3, 0, 0, 0) :: (4, .iload_n 1, 1, 0, 0, 0) :: (5, .aload_n 0, 1, 0, 0, 0) :: (6, .getfield 41, 3, 6, 0, 8) :: (9, .if_icmp .ge 13, 3, 0, 0, 0) :: (12, .iload_n 1, 1, 0, 0, 0) :: (13, .bipush 30, 2, 0, 0, 0) :: (15, .if_icmp .ge 7, 3, 0, 0, 0) :: (18, .iconst 1, 1, 0, 0, 0) :: (19, .goto 4, 3, 0, 0, 0) :: k_144_22
/-- PageInterpreter$Paths.covers(IZII)Z -/
def k_145_101 : List CE := (101, .ireturn, 1, 1, 0, 0) :: []
def k_145_100 : List CE := (100, .iconst 0, 1, 0, 0, 0) :: k_145_101
def k_145_91 : List CE := (91, .iload 5, 2, 0, 0, 0) :: (93, .ifCond .eq 7, 3, 0, 0, 0) :: (96, .iconst 1, 1, 0, 0, 0) :: (97, .goto 4, 3, 0, 0, 0) :: k_145_100
def k_145_87 : List CE := (87, .iconst 0, 1, 0, 0, 0) :: (88, .goto 13, 3, 0, 0, 0) :: k_145_91
def k_145_72 : List CE := (72, .iload_n 2, 1, 0, 0, 0) :: (73, .ifCond .eq 18, 3, 0, 0, 0) :: (76, .iload 5, 2, 0, 0, 0) :: (78, .iconst 1, 1, 0, 0, 0) :: (79, .iand, 1, 0, 0, 0) :: (80, .ifCond .eq 7, 3, 0, 0, 0) :: (83, .iconst 1, 1, 0, 0, 0) :: (84, .goto 17, 3, 0, 0, 0) :: k_145_87
def k_145_63 : List CE := (63, .iadd, 1, 0, 0, 0) :: (64, .istore 5, 2, 0, 0, 0) :: (66, .iinc 8 1, 3, 0, 0, 0) :: (69, .goto (-48), 3, 0, 0, 0) :: k_145_72
def k_145_57 : List CE := (57, .iload_n 3, 1, 0, 0, 0) :: (58, .iload 4, 2, 0, 0, 0) :: (60, .invokevirtual 54, 3, 148, 5005, 6) :: k_145_63
def k_145_42 : List CE := (42, .iload 5, 2, 0, 0, 0) :: (44, .aload_n 0, 1, 0, 0, 0) :: (45, .iload 8, 2, 0, 0, 0) :: (47, .aload_n 0, 1, 0, 0, 0) :: (48, .iload 8, 2, 0, 0, 0) :: (50, .iload 7, 2, 0, 0, 0) :: (52, .iload 6, 2, 0, 0, 0) :: (54, .invokevirtual 50, 3, 147, 4004, 6) :: k_145_57
def k_145_21 : List CE := (21, .iload 8, 2, 0, 0, 0) :: (23, .iload 6, 2, 0, 0, 0) :: (25, .if_icmp .ge 47, 3, 0, 0, 0) :: (28, .aload_n 0, 1, 0, 0, 0) :: (29, .getfield 18, 3, 5, 2, 2) :: (32, .iload 8, 2, 0, 0, 0) :: (34, .baload, 1, 0, 0, 0) :: (35, .ifCond .eq 7, 3, 0, 0, 0) :: (38, .iload 8, 2, 0, 0, 0) :: (40, .istore 7, 2, 0, 0, 0) :: k_145_42
def k_145_15 : List CE := (15, .istore 7, 2, 0, 0, 0) :: (17, .iload 7, 2, 0, 0, 0) :: (19, .istore 8, 2, 0, 0, 0) :: k_145_21
def k_145_8 : List CE := (8, .istore 6, 2, 0, 0, 0) :: (10, .aload_n 0, 1, 0, 0, 0) :: (11, .iload_n 1, 1, 0, 0, 0) :: (12, .invokevirtual 39, 3, 102, 2002, 6) :: k_145_15
def k_145_0 : List CE := (0, .iconst 0, 1, 0, 0, 0) :: (1, .istore 5, 2, 0, 0, 0) :: (3, .aload_n 0, 1, 0, 0, 0) :: (4, .iload_n 1, 1, 0, 0, 0) :: (5, .invokevirtual 47, 3, 146, 2002, 6) :: k_145_8
/-- PageInterpreter$Paths.endOf(I)I -/
def k_146_24 : List CE := (24, .ireturn, 1, 0, 0, 0) :: []
def k_146_23 : List CE := (23, .iconst 0, 1, 0, 0, 0) :: k_146_24
def k_146_0 : List CE := (0, .iload_n 1, 1, 0, 0, 0) :: (1, .ifCond .lt 22, 3, 0, 0, 0) :: (4, .iload_n 1, 1, 0, 0, 0) :: (5, .aload_n 0, 1, 0, 0, 0) :: (6, .getfield 28, 3, 5, 0, 5) :: (9, .if_icmp .ge 14, 3, 0, 0, 0) :: (12, .aload_n 0, 1, 0, 0, 0) :: (13, .getfield 22, 3, 5, 2, 3) :: (16, .iload_n 1, 1, 0, 0, 0) :: (17, .iconst 1, 1, 0, 0, 0) :: (18, .iadd, 1, 0, 0, 0) :: (19, .iaload, 1, 0, 0, 0) :: (20, .goto 4, 3, 0, 0, 0) :: k_146_23
/-- PageInterpreter$Paths.findNext(III)I -/
def k_147_25 : List CE := (25, .ireturn, 1, 0, 0, 0) :: []
def k_147_24 : List CE := (24, .iload_n 2, 1, 0, 0, 0) :: k_147_25
def k_147_0 : List CE := (0, .iload_n 1, 1, 0, 0, 0) :: (1, .iconst 1, 1, 0, 0, 0) :: (2, .iadd, 1, 0, 0, 0) :: (3, .iload_n 3, 1, 0, 0, 0) :: (4, .if_icmp .ge 20, 3, 0, 0, 0) :: (7, .aload_n 0, 1, 0, 0, 0) :: (8, .getfield 18, 3, 5, 2, 2) :: (11, .iload_n 1, 1, 0, 0, 0) :: (12, .iconst 1, 1, 0, 0, 0) :: (13, .iadd, 1, 0, 0, 0) :: (14, .baload, 1, 0, 0, 0) :: (15, .ifCond .ne 9, 3, 0, 0, 0) :: (18, .iload_n 1, 1, 0, 0, 0) :: (19, .iconst 1, 1, 0, 0, 0) :: (20, .iadd, 1, 0, 0, 0) :: (21, .goto 4, 3, 0, 0, 0) :: k_147_24
/-- PageInterpreter$Paths.crossing(IIII)I -/
def k_148_152 : List CE := (152, .ireturn, 1, 0, 0, 0) :: []
def k_148_151 : List CE := (151, .iconst 0, 1, 0, 0, 0) :: k_148_152
def k_148_140 : List CE := (140, .lload 7, 2, 0, 0, 0) :: (142, .lconst 0, 1, 0, 0, 0) :: (143, .lcmp, 1, 0, 0, 0) :: (144, .ifCond .ge 7, 3, 0, 0, 0) :: (147, .iconst (-1), 1, 0, 0, 0) :: (148, .goto 4, 3, 0, 0, 0) :: k_148_151
def k_148_139 : List CE := (139, .ireturn, 1, 0, 0, 0) :: k_148_140
def k_148_138 : List CE := (138, .iconst 0, 1, 0, 0, 0) :: k_148_139
def k_148_70 : List CE := (70, .aload_n 0, 1, 0, 0, 0) :: (71, .getfield 9, 3, 5, 2, 0) :: (74, .iload_n 1, 1, 0, 0, 0) :: (75, .iaload, 1, 0, 0, 0) :: (76, .iload_n 3, 1, 0, 0, 0) :: (77, .isub, 1, 0, 0, 0) :: (78, .i2l, 1, 0, 0, 0) :: (79, .aload_n 0, 1, 0, 0, 0) :: (80, .getfield 15, 3, 5, 2, 1) :: (83, .iload_n 2, 1, 0, 0, 0) :: (84, .iaload, 1, 0, 0, 0) :: (85, .aload_n 0, 1, 0, 0, 0) :: (86, .getfield 15, 3, 5, 2, 1) :: (89, .iload_n 1, 1, 0, 0, 0) :: (90, .iaload, 1, 0, 0, 0) :: (91, .isub, 1, 0, 0, 0) :: (92, .i2l, 1, 0, 0, 0) :: (93, .lmul, 1, 0, 0, 0) :: (94, .iload 4, 2, 0, 0, 0) :: (96, .aload_n 0, 1, 0, 0, 0) :: (97, .getfield 15, 3, 5, 2, 1) :: (100, .iload_n 1, 1, 0, 0, 0) :: (101, .iaload, 1, 0, 0, 0) :: (102, .isub, 1, 0, 0, 0) :: (103, .i2l, 1, 0, 0, 0) :: (104, .aload_n 0, 1, 0, 0, 0) :: (105, .getfield 9, 3, 5, 2, 0) :: (108, .iload_n 2, 1, 0, 0, 0) :: (109, .iaload, 1, 0, 0, 0) :: (110, .aload_n 0, 1, 0, 0, 0) :: (111, .getfield 9, 3, 5, 2, 0) :: (114, .iload_n 1, 1, 0, 0, 0) :: (115, .iaload, 1, 0, 0, 0) :: (116, .isub, 1, 0, 0, 0) :: (117, .i2l, 1, 0, 0, 0) :: (118, .lmul, 1, 0, 0, 0) :: (119, .ladd, 1, 0, 0, 0) :: (120, .lstore 7, 2, 0, 0, 0) :: (122, .iload 5, 2, 0, 0, 0) :: (124, .ifCond .eq 16, 3, 0, 0, 0) :: (127, .lload 7, 2, 0, 0, 0) :: (129, .lconst 0, 1, 0, 0, 0) :: (130, .lcmp, 1, 0, 0, 0) :: (131, .ifCond .le 7, 3, 0, 0, 0) :: (134, .iconst 1, 1, 0, 0, 0) :: (135, .goto 4, 3, 0, 0, 0) :: k_148_138
def k_148_56 : List CE := (56, .istore 6, 2, 0, 0, 0) :: (58, .iload 5, 2, 0, 0, 0) :: (60, .ifCond .ne 10, 3, 0, 0, 0) :: (63, .iload 6, 2, 0, 0, 0) :: (65, .ifCond .ne 5, 3, 0, 0, 0) :: (68, .iconst 0, 1, 0, 0, 0) :: (69, .ireturn, 1, 0, 0, 0) :: k_148_70
def k_148_55 : List CE := (55, .iconst 0, 1, 0, 0, 0) :: k_148_56
def k_148_27 : List CE := (27, .istore 5, 2, 0, 0, 0) :: (29, .aload_n 0, 1, 0, 0, 0) :: (30, .getfield 15, 3, 5, 2, 1) :: (33, .iload_n 2, 1, 0, 0, 0) :: (34, .iaload, 1, 0, 0, 0) :: (35, .iload 4, 2, 0, 0, 0) :: (37, .if_icmp .gt 18, 3, 0, 0, 0) :: (40, .aload_n 0, 1, 0, 0, 0) :: (41, .getfield 15, 3, 5, 2, 1) :: (44, .iload_n 1, 1, 0, 0, 0) :: (45, .iaload, 1, 0, 0, 0) :: (46, .iload 4, 2, 0, 0, 0) :: (48, .if_icmp .le 7, 3, 0, 0, 0) :: (51, .iconst 1, 1, 0, 0, 0) :: (52, .goto 4, 3, 0, 0, 0) :: k_148_55
def k_148_26 : List CE := (26, .iconst 0, 1, 0, 0, 0) :: k_148_27
def k_148_0 : List CE := (0, .aload_n 0, 1, 0, 0, 0) :: (1, .getfield 15, 3, 5, 2, 1) :: (4, .iload_n 1, 1, 0, 0, 0) :: (5, .iaload, 1, 0, 0, 0) :: (6, .iload 4, 2, 0, 0, 0) :: (8, .if_icmp .gt 18, 3, 0, 0, 0) :: (11, .aload_n 0, 1, 0, 0, 0) :: (12, .getfield 15, 3, 5, 2, 1) :: (15, .iload_n 2, 1, 0, 0, 0) :: (16, .iaload, 1, 0, 0, 0) :: (17, .iload 4, 2, 0, 0, 0) :: (19, .if_icmp .le 7, 3, 0, 0, 0) :: (22, .iconst 1, 1, 0, 0, 0) :: (23, .goto 4, 3, 0, 0, 0) :: k_148_26
/-- PageInterpreter$Paths.isOddClip(I)Z -/
def k_149_25 : List CE := (25, .ireturn, 1, 1, 0, 0) :: []
def k_149_24 : List CE := (24, .iconst 0, 1, 0, 0, 0) :: k_149_25
def k_149_0 : List CE := (0, .iload_n 1, 1, 0, 0, 0) :: (1, .ifCond .lt 23, 3, 0, 0, 0) :: (4, .iload_n 1, 1, 0, 0, 0) :: (5, .sipush 200, 3, 0, 0, 0) :: (8, .if_icmp .gt 16, 3, 0, 0, 0) :: (11, .aload_n 0, 1, 0, 0, 0) :: (12, .getfield 25, 3, 5, 2, 4) :: (15, .iload_n 1, 1, 0, 0, 0) :: (16, .baload, 1, 0, 0, 0) :: (17, .ifCond .eq 7, 3, 0, 0, 0) :: (20, .iconst 1, 1, 0, 0, 0) :: (21, .goto 4, 3, 0, 0, 0) :: k_149_24
/-- PageInterpreter$Items.colorOf(I)I -/
def k_150_18 : List CE := (18, .ireturn, 1, 0, 0, 0) :: []
def k_150_17 : List CE := (17, .iconst 0, 1, 0, 0, 0) :: k_150_18
def k_150_5 : List CE := (5, .ifCond .eq 12, 3, 0, 0, 0) :: (8, .aload_n 0, 1, 0, 0, 0) :: (9, .getfield 26, 3, 6, 2, 3) :: (12, .iload_n 1, 1, 0, 0, 0) :: (13, .iaload, 1, 0, 0, 0) :: (14, .goto 4, 3, 0, 0, 0) :: k_150_17
def k_150_0 : List CE := (0, .aload_n 0, 1, 0, 0, 0) :: (1, .iload_n 1, 1, 0, 0, 0) :: (2, .invokevirtual 60, 3, 144, 2002, 7) :: k_150_5
/-- PageInterpreter.countColor(I)I -/
def k_151_43 : List CE := (43, .ireturn, 1, 0, 0, 0) :: []
def k_151_41 : List CE := (41, .ldc 81, 2, 0, 0, (-10000002)) :: k_151_43
def k_151_38 : List CE := (38, .goto 5, 3, 0, 0, 0) :: k_151_41
def k_151_13 : List CE := (13, .aload_n 0, 1, 0, 0, 0) :: (14, .getfield 30, 3, 0, 2, 3) :: (17, .getfield 120, 3, 4, 3, 10) :: (20, .ifCond .eq 21, 3, 0, 0, 0) :: (23, .aload_n 0, 1, 0, 0, 0) :: (24, .getfield 30, 3, 0, 2, 3) :: (27, .getfield 140, 3, 4, 2, 2) :: (30, .iload_n 1, 1, 0, 0, 0) :: (31, .aload_n 0, 1, 0, 0, 0) :: (32, .getfield 19, 3, 0, 2, 1) :: (35, .invokevirtual 156, 3, 152, 3003, 7) :: k_151_38
def k_151_7 : List CE := (7, .ifCond .ne 6, 3, 0, 0, 0) :: (10, .ldc 34, 2, 0, 0, (-10000001)) :: (12, .ireturn, 1, 0, 0, 0) :: k_151_13
def k_151_0 : List CE := (0, .iload_n 1, 1, 0, 0, 0) :: (1, .iconst 0, 1, 0, 0, 0) :: (2, .bipush 15, 2, 0, 0, 0) :: (4, .invokestatic 96, 3, 15, 3003, 0) :: k_151_7
/-- PageInterpreter$Items.countCells(ILPageInterpreter$State;)I -/
def k_152_61 : List CE := (61, .iload_n 3, 1, 0, 0, 0) :: (62, .ireturn, 1, 0, 0, 0) :: []
def k_152_55 : List CE := (55, .iinc 4 1, 3, 0, 0, 0) :: (58, .goto (-53), 3, 0, 0, 0) :: k_152_61
def k_152_49 : List CE := (49, .iinc 5 1, 3, 0, 0, 0) :: (52, .goto (-35), 3, 0, 0, 0) :: k_152_55
def k_152_42 : List CE := (42, .iload_n 1, 1, 0, 0, 0) :: (43, .if_icmp .ne 6, 3, 0, 0, 0) :: (46, .iinc 3 1, 3, 0, 0, 0) :: k_152_49
def k_152_39 : List CE := (39, .invokevirtual 87, 3, 150, 2002, 7) :: k_152_42
def k_152_17 : List CE := (17, .iload 5, 2, 0, 0, 0) :: (19, .aload_n 2, 1, 0, 0, 0) :: (20, .getfield 80, 3, 3, 0, 4) :: (23, .if_icmp .ge 32, 3, 0, 0, 0) :: (26, .aload_n 0, 1, 0, 0, 0) :: (27, .aload_n 0, 1, 0, 0, 0) :: (28, .iload 5, 2, 0, 0, 0) :: (30, .iload 4, 2, 0, 0, 0) :: (32, .aload_n 0, 1, 0, 0, 0) :: (33, .getfield 41, 3, 6, 0, 8) :: (36, .invokevirtual 83, 3, 142, 4004, 7) :: k_152_39
def k_152_5 : List CE := (5, .iload 4, 2, 0, 0, 0) :: (7, .aload_n 2, 1, 0, 0, 0) :: (8, .getfield 75, 3, 3, 0, 5) :: (11, .if_icmp .ge 50, 3, 0, 0, 0) :: (14, .iconst 0, 1, 0, 0, 0) :: (15, .istore 5, 2, 0, 0, 0) :: k_152_17
def k_152_0 : List CE := (0, .iconst 0, 1, 0, 0, 0) :: (1, .istore_n 3, 1, 0, 0, 0) :: (2, .iconst 0, 1, 0, 0, 0) :: (3, .istore 4, 2, 0, 0, 0) :: k_152_5
/-- PageInterpreter.itemAt(II)I -/
def k_153_61 : List CE := (61, .ireturn, 1, 0, 0, 0) :: []
def k_153_60 : List CE := (60, .iload_n 3, 1, 0, 0, 0) :: k_153_61
def k_153_50 : List CE := (50, .istore_n 3, 1, 0, 0, 0) :: (51, .iload_n 3, 1, 0, 0, 0) :: (52, .ifCond .ge 8, 3, 0, 0, 0) :: (55, .ldc 65, 2, 0, 0, (-10000009)) :: (57, .goto 4, 3, 0, 0, 0) :: k_153_60
def k_153_28 : List CE := (28, .aload_n 0, 1, 0, 0, 0) :: (29, .getfield 30, 3, 0, 2, 3) :: (32, .getfield 140, 3, 4, 2, 2) :: (35, .iload_n 1, 1, 0, 0, 0) :: (36, .iload_n 2, 1, 0, 0, 0) :: (37, .aload_n 0, 1, 0, 0, 0) :: (38, .getfield 30, 3, 0, 2, 3) :: (41, .getfield 140, 3, 4, 2, 2) :: (44, .getfield 144, 3, 6, 0, 8) :: (47, .invokevirtual 149, 3, 142, 4004, 7) :: k_153_50
def k_153_15 : List CE := (15, .aload_n 0, 1, 0, 0, 0) :: (16, .getfield 30, 3, 0, 2, 3) :: (19, .getfield 120, 3, 4, 3, 10) :: (22, .ifCond .ne 6, 3, 0, 0, 0) :: (25, .ldc 81, 2, 0, 0, (-10000002)) :: (27, .ireturn, 1, 0, 0, 0) :: k_153_28
def k_153_9 : List CE := (9, .ifCond .ne 6, 3, 0, 0, 0) :: (12, .ldc 34, 2, 0, 0, (-10000001)) :: (14, .ireturn, 1, 0, 0, 0) :: k_153_15
def k_153_0 : List CE := (0, .aload_n 0, 1, 0, 0, 0) :: (1, .getfield 19, 3, 0, 2, 1) :: (4, .iload_n 1, 1, 0, 0, 0) :: (5, .iload_n 2, 1, 0, 0, 0) :: (6, .invokevirtual 137, 3, 141, 3003, 4) :: k_153_9
/-- PageInterpreter.item(II)I -/
def k_154_47 : List CE := (47, .ireturn, 1, 0, 0, 0) :: []
def k_154_46 : List CE := (46, .iload_n 3, 1, 0, 0, 0) :: k_154_47
def k_154_43 : List CE := (43, .goto 4, 3, 0, 0, 0) :: k_154_46
def k_154_22 : List CE := (22, .istore_n 3, 1, 0, 0, 0) :: (23, .iload_n 3, 1, 0, 0, 0) :: (24, .ifCond .ne 22, 3, 0, 0, 0) :: (27, .aload_n 0, 1, 0, 0, 0) :: (28, .getfield 30, 3, 0, 2, 3) :: (31, .getfield 140, 3, 4, 2, 2) :: (34, .iload_n 1, 1, 0, 0, 0) :: (35, .iload_n 2, 1, 0, 0, 0) :: (36, .aload_n 0, 1, 0, 0, 0) :: (37, .getfield 19, 3, 0, 2, 1) :: (40, .invokevirtual 163, 3, 156, 4004, 7) :: k_154_43
def k_154_17 : List CE := (17, .aload_n 0, 1, 0, 0, 0) :: (18, .iload_n 1, 1, 0, 0, 0) :: (19, .invokevirtual 160, 3, 155, 2002, 1) :: k_154_22
def k_154_14 : List CE := (14, .ldc 34, 2, 0, 0, (-10000001)) :: (16, .ireturn, 1, 0, 0, 0) :: k_154_17
def k_154_11 : List CE := (11, .ifCond .ne 6, 3, 0, 0, 0) :: k_154_14
def k_154_0 : List CE := (0, .iload_n 1, 1, 0, 0, 0) :: (1, .ifCond .lt 13, 3, 0, 0, 0) :: (4, .iload_n 2, 1, 0, 0, 0) :: (5, .iconst 0, 1, 0, 0, 0) :: (6, .bipush 8, 2, 0, 0, 0) :: (8, .invokestatic 96, 3, 15, 3003, 0) :: k_154_11
/-- PageInterpreter.missingItem(I)I -/
def k_155_33 : List CE := (33, .ireturn, 1, 0, 0, 0) :: []
def k_155_31 : List CE := (31, .ldc 65, 2, 0, 0, (-10000009)) :: k_155_33
def k_155_13 : List CE := (13, .iload_n 1, 1, 0, 0, 0) :: (14, .aload_n 0, 1, 0, 0, 0) :: (15, .getfield 30, 3, 0, 2, 3) :: (18, .getfield 140, 3, 4, 2, 2) :: (21, .getfield 144, 3, 6, 0, 8) :: (24, .if_icmp .ge 7, 3, 0, 0, 0) :: (27, .iconst 0, 1, 0, 0, 0) :: (28, .goto 5, 3, 0, 0, 0) :: k_155_31
def k_155_0 : List CE := (0, .aload_n 0, 1, 0, 0, 0) :: (1, .getfield 30, 3, 0, 2, 3) :: (4, .getfield 120, 3, 4, 3, 10) :: (7, .ifCond .ne 6, 3, 0, 0, 0) :: (10, .ldc 81, 2, 0, 0, (-10000002)) :: (12, .ireturn, 1, 0, 0, 0) :: k_155_13
/-- PageInterpreter$Items.findProperty(IILPageInterpreter$State;)I -/
def k_156_136 : List CE := (136, .ireturn, 1, 0, 0, 0) :: []
def k_156_130 : List CE := (130, .aload_n 0, 1, 0, 0, 0) :: (131, .iload_n 1, 1, 0, 0, 0) :: (132, .aload_n 3, 1, 0, 0, 0) :: (133, .invokevirtual 108, 3, 160, 3003, 7) :: k_156_136
def k_156_129 : List CE := (129, .ireturn, 1, 0, 0, 0) :: k_156_130
def k_156_123 : List CE := (123, .aload_n 0, 1, 0, 0, 0) :: (124, .iload_n 1, 1, 0, 0, 0) :: (125, .aload_n 3, 1, 0, 0, 0) :: (126, .invokevirtual 104, 3, 159, 3003, 7) :: k_156_129
def k_156_116 : List CE := (116, .aload_n 0, 1, 0, 0, 0) :: (117, .getfield 32, 3, 6, 2, 5) :: (120, .iload_n 1, 1, 0, 0, 0) :: (121, .iaload, 1, 0, 0, 0) :: (122, .ireturn, 1, 0, 0, 0) :: k_156_123
def k_156_109 : List CE := (109, .aload_n 0, 1, 0, 0, 0) :: (110, .getfield 29, 3, 6, 2, 4) :: (113, .iload_n 1, 1, 0, 0, 0) :: (114, .iaload, 1, 0, 0, 0) :: (115, .ireturn, 1, 0, 0, 0) :: k_156_116
def k_156_102 : List CE := (102, .aload_n 0, 1, 0, 0, 0) :: (103, .getfield 35, 3, 6, 2, 6) :: (106, .iload_n 1, 1, 0, 0, 0) :: (107, .iaload, 1, 0, 0, 0) :: (108, .ireturn, 1, 0, 0, 0) :: k_156_109
def k_156_101 : List CE := (101, .ireturn, 1, 0, 0, 0) :: k_156_102
def k_156_96 : List CE := (96, .aload_n 0, 1, 0, 0, 0) :: (97, .iload_n 1, 1, 0, 0, 0) :: (98, .invokevirtual 101, 3, 158, 2002, 7) :: k_156_101
def k_156_95 : List CE := (95, .ireturn, 1, 0, 0, 0) :: k_156_96
def k_156_82 : List CE := (82, .aload_n 0, 1, 0, 0, 0) :: (83, .getfield 12, 3, 6, 2, 0) :: (86, .aload_n 0, 1, 0, 0, 0) :: (87, .getfield 18, 3, 6, 2, 1) :: (90, .iload_n 1, 1, 0, 0, 0) :: (91, .iaload, 1, 0, 0, 0) :: (92, .invokevirtual 98, 3, 157, 2002, 6) :: k_156_95
def k_156_81 : List CE := (81, .ireturn, 1, 0, 0, 0) :: k_156_82
def k_156_80 : List CE := (80, .iconst 0, 1, 0, 0, 0) :: k_156_81
def k_156_67 : List CE := (67, .aload_n 0, 1, 0, 0, 0) :: (68, .getfield 22, 3, 6, 2, 2) :: (71, .iload_n 1, 1, 0, 0, 0) :: (72, .baload, 1, 0, 0, 0) :: (73, .ifCond .eq 7, 3, 0, 0, 0) :: (76, .iconst 1, 1, 0, 0, 0) :: (77, .goto 4, 3, 0, 0, 0) :: k_156_80
def k_156_60 : List CE := (60, .aload_n 0, 1, 0, 0, 0) :: (61, .getfield 26, 3, 6, 2, 3) :: (64, .iload_n 1, 1, 0, 0, 0) :: (65, .iaload, 1, 0, 0, 0) :: (66, .ireturn, 1, 0, 0, 0) :: k_156_67
def k_156_11 : List CE := (11, .iload_n 2, 1, 0, 0, 0) :: (12, .tableswitch 118 0 7 #[48, 55, 70, 84, 90, 97, 104, 111], 48, 0, 0, 0) :: k_156_60
def k_156_5 : List CE := (5, .ifCond .ne 6, 3, 0, 0, 0) :: (8, .ldc 97, 2, 0, 0, (-10000009)) :: (10, .ireturn, 1, 0, 0, 0) :: k_156_11
def k_156_0 : List CE := (0, .aload_n 0, 1, 0, 0, 0) :: (1, .iload_n 1, 1, 0, 0, 0) :: (2, .invokevirtual 60, 3, 144, 2002, 7) :: k_156_5
/-- PageInterpreter$Paths.countParts(I)I -/
def k_157_35 : List CE := (35, .iload_n 2, 1, 0, 0, 0) :: (36, .ireturn, 1, 0, 0, 0) :: []
def k_157_29 : List CE := (29, .iinc 3 1, 3, 0, 0, 0) :: (32, .goto (-24), 3, 0, 0, 0) :: k_157_35
def k_157_14 : List CE := (14, .if_icmp .ge 21, 3, 0, 0, 0) :: (17, .aload_n 0, 1, 0, 0, 0) :: (18, .getfield 18, 3, 5, 2, 2) :: (21, .iload_n 3, 1, 0, 0, 0) :: (22, .baload, 1, 0, 0, 0) :: (23, .ifCond .eq 6, 3, 0, 0, 0) :: (26, .iinc 2 1, 3, 0, 0, 0) :: k_157_29
def k_157_8 : List CE := (8, .iload_n 3, 1, 0, 0, 0) :: (9, .aload_n 0, 1, 0, 0, 0) :: (10, .iload_n 1, 1, 0, 0, 0) :: (11, .invokevirtual 47, 3, 146, 2002, 6) :: k_157_14
def k_157_7 : List CE := (7, .istore_n 3, 1, 0, 0, 0) :: k_157_8
def k_157_0 : List CE := (0, .iconst 0, 1, 0, 0, 0) :: (1, .istore_n 2, 1, 0, 0, 0) :: (2, .aload_n 0, 1, 0, 0, 0) :: (3, .iload_n 1, 1, 0, 0, 0) :: (4, .invokevirtual 39, 3, 102, 2002, 6) :: k_157_7
/-- PageInterpreter$Items.countPoints(I)I -/
def k_158_39 : List CE := (39, .ireturn, 1, 0, 0, 0) :: []
def k_158_38 : List CE := (38, .iconst 0, 1, 0, 0, 0) :: k_158_39
def k_158_34 : List CE := (34, .isub, 1, 0, 0, 0) :: (35, .goto 4, 3, 0, 0, 0) :: k_158_38
def k_158_21 : List CE := (21, .aload_n 0, 1, 0, 0, 0) :: (22, .getfield 12, 3, 6, 2, 0) :: (25, .aload_n 0, 1, 0, 0, 0) :: (26, .getfield 18, 3, 6, 2, 1) :: (29, .iload_n 1, 1, 0, 0, 0) :: (30, .iaload, 1, 0, 0, 0) :: (31, .invokevirtual 94, 3, 102, 2002, 6) :: k_158_34
def k_158_5 : List CE := (5, .ifCond .eq 33, 3, 0, 0, 0) :: (8, .aload_n 0, 1, 0, 0, 0) :: (9, .getfield 12, 3, 6, 2, 0) :: (12, .aload_n 0, 1, 0, 0, 0) :: (13, .getfield 18, 3, 6, 2, 1) :: (16, .iload_n 1, 1, 0, 0, 0) :: (17, .iaload, 1, 0, 0, 0) :: (18, .invokevirtual 91, 3, 146, 2002, 6) :: k_158_21
def k_158_0 : List CE := (0, .aload_n 0, 1, 0, 0, 0) :: (1, .iload_n 1, 1, 0, 0, 0) :: (2, .invokevirtual 60, 3, 144, 2002, 7) :: k_158_5
/-- PageInterpreter$Items.countCovered(ILPageInterpreter$State;)I -/
def k_159_53 : List CE := (53, .iload_n 3, 1, 0, 0, 0) :: (54, .ireturn, 1, 0, 0, 0) :: []
def k_159_47 : List CE := (47, .iinc 4 1, 3, 0, 0, 0) :: (50, .goto (-45), 3, 0, 0, 0) :: k_159_53
def k_159_41 : List CE := (41, .iinc 5 1, 3, 0, 0, 0) :: (44, .goto (-27), 3, 0, 0, 0) :: k_159_47
def k_159_35 : List CE := (35, .ifCond .eq 6, 3, 0, 0, 0) :: (38, .iinc 3 1, 3, 0, 0, 0) :: k_159_41
def k_159_17 : List CE := (17, .iload 5, 2, 0, 0, 0) :: (19, .aload_n 2, 1, 0, 0, 0) :: (20, .getfield 80, 3, 3, 0, 4) :: (23, .if_icmp .ge 24, 3, 0, 0, 0) :: (26, .aload_n 0, 1, 0, 0, 0) :: (27, .iload_n 1, 1, 0, 0, 0) :: (28, .iload 5, 2, 0, 0, 0) :: (30, .iload 4, 2, 0, 0, 0) :: (32, .invokevirtual 71, 3, 143, 4004, 7) :: k_159_35
def k_159_5 : List CE := (5, .iload 4, 2, 0, 0, 0) :: (7, .aload_n 2, 1, 0, 0, 0) :: (8, .getfield 75, 3, 3, 0, 5) :: (11, .if_icmp .ge 42, 3, 0, 0, 0) :: (14, .iconst 0, 1, 0, 0, 0) :: (15, .istore 5, 2, 0, 0, 0) :: k_159_17
def k_159_0 : List CE := (0, .iconst 0, 1, 0, 0, 0) :: (1, .istore_n 3, 1, 0, 0, 0) :: (2, .iconst 0, 1, 0, 0, 0) :: (3, .istore 4, 2, 0, 0, 0) :: k_159_5
/-- PageInterpreter$Items.countChanged(ILPageInterpreter$State;)I -/
def k_160_90 : List CE := (90, .iload_n 3, 1, 0, 0, 0) :: (91, .ireturn, 1, 0, 0, 0) :: []
def k_160_84 : List CE := (84, .iinc 4 1, 3, 0, 0, 0) :: (87, .goto (-82), 3, 0, 0, 0) :: k_160_90
def k_160_78 : List CE := (78, .iinc 5 1, 3, 0, 0, 0) :: (81, .goto (-64), 3, 0, 0, 0) :: k_160_84
def k_160_72 : List CE := (72, .if_icmp .eq 6, 3, 0, 0, 0) :: (75, .iinc 3 1, 3, 0, 0, 0) :: k_160_78
def k_160_67 : List CE := (67, .aload_n 0, 1, 0, 0, 0) :: (68, .iload_n 1, 1, 0, 0, 0) :: (69, .invokevirtual 87, 3, 150, 2002, 7) :: k_160_72
def k_160_64 : List CE := (64, .invokevirtual 87, 3, 150, 2002, 7) :: k_160_67
def k_160_47 : List CE := (47, .istore 6, 2, 0, 0, 0) :: (49, .iload 6, 2, 0, 0, 0) :: (51, .ifCond .eq 27, 3, 0, 0, 0) :: (54, .aload_n 0, 1, 0, 0, 0) :: (55, .aload_n 0, 1, 0, 0, 0) :: (56, .iload 5, 2, 0, 0, 0) :: (58, .iload 4, 2, 0, 0, 0) :: (60, .iload_n 1, 1, 0, 0, 0) :: (61, .invokevirtual 83, 3, 142, 4004, 7) :: k_160_64
def k_160_46 : List CE := (46, .iconst 0, 1, 0, 0, 0) :: k_160_47
def k_160_38 : List CE := (38, .iload_n 1, 1, 0, 0, 0) :: (39, .if_icmp .ne 7, 3, 0, 0, 0) :: (42, .iconst 1, 1, 0, 0, 0) :: (43, .goto 4, 3, 0, 0, 0) :: k_160_46
def k_160_17 : List CE := (17, .iload 5, 2, 0, 0, 0) :: (19, .aload_n 2, 1, 0, 0, 0) :: (20, .getfield 80, 3, 3, 0, 4) :: (23, .if_icmp .ge 61, 3, 0, 0, 0) :: (26, .aload_n 0, 1, 0, 0, 0) :: (27, .iload 5, 2, 0, 0, 0) :: (29, .iload 4, 2, 0, 0, 0) :: (31, .aload_n 0, 1, 0, 0, 0) :: (32, .getfield 41, 3, 6, 0, 8) :: (35, .invokevirtual 83, 3, 142, 4004, 7) :: k_160_38
def k_160_5 : List CE := (5, .iload 4, 2, 0, 0, 0) :: (7, .aload_n 2, 1, 0, 0, 0) :: (8, .getfield 75, 3, 3, 0, 5) :: (11, .if_icmp .ge 79, 3, 0, 0, 0) :: (14, .iconst 0, 1, 0, 0, 0) :: (15, .istore 5, 2, 0, 0, 0) :: k_160_17
def k_160_0 : List CE := (0, .iconst 0, 1, 0, 0, 0) :: (1, .istore_n 3, 1, 0, 0, 0) :: (2, .iconst 0, 1, 0, 0, 0) :: (3, .istore 4, 2, 0, 0, 0) :: k_160_5
/-- PageInterpreter.point(III)I -/
def k_161_50 : List CE := (50, .ireturn, 1, 0, 0, 0) :: []
def k_161_48 : List CE := (48, .iload 4, 2, 0, 0, 0) :: k_161_50
def k_161_45 : List CE := (45, .goto 5, 3, 0, 0, 0) :: k_161_48
def k_161_25 : List CE := (25, .istore 4, 2, 0, 0, 0) :: (27, .iload 4, 2, 0, 0, 0) :: (29, .ifCond .ne 19, 3, 0, 0, 0) :: (32, .aload_n 0, 1, 0, 0, 0) :: (33, .getfield 30, 3, 0, 2, 3) :: (36, .getfield 140, 3, 4, 2, 2) :: (39, .iload_n 1, 1, 0, 0, 0) :: (40, .iload_n 2, 1, 0, 0, 0) :: (41, .iload_n 3, 1, 0, 0, 0) :: (42, .invokevirtual 167, 3, 162, 4004, 7) :: k_161_45
def k_161_20 : List CE := (20, .aload_n 0, 1, 0, 0, 0) :: (21, .iload_n 1, 1, 0, 0, 0) :: (22, .invokevirtual 160, 3, 155, 2002, 1) :: k_161_25
def k_161_17 : List CE := (17, .ldc 34, 2, 0, 0, (-10000001)) :: (19, .ireturn, 1, 0, 0, 0) :: k_161_20
def k_161_14 : List CE := (14, .ifCond .ne 6, 3, 0, 0, 0) :: k_161_17
def k_161_0 : List CE := (0, .iload_n 1, 1, 0, 0, 0) :: (1, .ifCond .lt 16, 3, 0, 0, 0) :: (4, .iload_n 2, 1, 0, 0, 0) :: (5, .ifCond .lt 12, 3, 0, 0, 0) :: (8, .iload_n 3, 1, 0, 0, 0) :: (9, .iconst 0, 1, 0, 0, 0) :: (10, .iconst 1, 1, 0, 0, 0) :: (11, .invokestatic 96, 3, 15, 3003, 0) :: k_161_14
/-- PageInterpreter$Items.findCoordinate(III)I -/
def k_162_60 : List CE := (60, .ireturn, 1, 0, 0, 0) :: []
def k_162_50 : List CE := (50, .aload_n 0, 1, 0, 0, 0) :: (51, .getfield 12, 3, 6, 2, 0) :: (54, .getfield 114, 3, 5, 2, 1) :: (57, .iload 4, 2, 0, 0, 0) :: (59, .iaload, 1, 0, 0, 0) :: k_162_60
def k_162_29 : List CE := (29, .iload_n 2, 1, 0, 0, 0) :: (30, .iadd, 1, 0, 0, 0) :: (31, .istore 4, 2, 0, 0, 0) :: (33, .iload_n 3, 1, 0, 0, 0) :: (34, .ifCond .ne 16, 3, 0, 0, 0) :: (37, .aload_n 0, 1, 0, 0, 0) :: (38, .getfield 12, 3, 6, 2, 0) :: (41, .getfield 111, 3, 5, 2, 0) :: (44, .iload 4, 2, 0, 0, 0) :: (46, .iaload, 1, 0, 0, 0) :: (47, .goto 13, 3, 0, 0, 0) :: k_162_50
def k_162_16 : List CE := (16, .aload_n 0, 1, 0, 0, 0) :: (17, .getfield 12, 3, 6, 2, 0) :: (20, .aload_n 0, 1, 0, 0, 0) :: (21, .getfield 18, 3, 6, 2, 1) :: (24, .iload_n 1, 1, 0, 0, 0) :: (25, .iaload, 1, 0, 0, 0) :: (26, .invokevirtual 94, 3, 102, 2002, 6) :: k_162_29
def k_162_13 : List CE := (13, .ldc 97, 2, 0, 0, (-10000009)) :: (15, .ireturn, 1, 0, 0, 0) :: k_162_16
def k_162_10 : List CE := (10, .if_icmp .lt 6, 3, 0, 0, 0) :: k_162_13
def k_162_0 : List CE := (0, .iload_n 2, 1, 0, 0, 0) :: (1, .ifCond .lt 12, 3, 0, 0, 0) :: (4, .iload_n 2, 1, 0, 0, 0) :: (5, .aload_n 0, 1, 0, 0, 0) :: (6, .iload_n 1, 1, 0, 0, 0) :: (7, .invokevirtual 101, 3, 158, 2002, 7) :: k_162_10
/-- PageInterpreter.bound(II)I -/
def k_163_42 : List CE := (42, .ireturn, 1, 0, 0, 0) :: []
def k_163_41 : List CE := (41, .iload_n 3, 1, 0, 0, 0) :: k_163_42
def k_163_38 : List CE := (38, .goto 4, 3, 0, 0, 0) :: k_163_41
def k_163_21 : List CE := (21, .istore_n 3, 1, 0, 0, 0) :: (22, .iload_n 3, 1, 0, 0, 0) :: (23, .ifCond .ne 18, 3, 0, 0, 0) :: (26, .aload_n 0, 1, 0, 0, 0) :: (27, .getfield 30, 3, 0, 2, 3) :: (30, .getfield 140, 3, 4, 2, 2) :: (33, .iload_n 1, 1, 0, 0, 0) :: (34, .iload_n 2, 1, 0, 0, 0) :: (35, .invokevirtual 170, 3, 164, 3003, 7) :: k_163_38
def k_163_16 : List CE := (16, .aload_n 0, 1, 0, 0, 0) :: (17, .iload_n 1, 1, 0, 0, 0) :: (18, .invokevirtual 160, 3, 155, 2002, 1) :: k_163_21
def k_163_13 : List CE := (13, .ldc 34, 2, 0, 0, (-10000001)) :: (15, .ireturn, 1, 0, 0, 0) :: k_163_16
def k_163_10 : List CE := (10, .ifCond .ne 6, 3, 0, 0, 0) :: k_163_13
def k_163_0 : List CE := (0, .iload_n 1, 1, 0, 0, 0) :: (1, .ifCond .lt 12, 3, 0, 0, 0) :: (4, .iload_n 2, 1, 0, 0, 0) :: (5, .iconst 0, 1, 0, 0, 0) :: (6, .iconst 3, 1, 0, 0, 0) :: (7, .invokestatic 96, 3, 15, 3003, 0) :: k_163_10
/-- PageInterpreter$Items.findSide(II)I -/
def k_164_64 : List CE := (64, .iload_n 3, 1, 0, 0, 0) :: (65, .ireturn, 1, 0, 0, 0) :: []
def k_164_58 : List CE := (58, .iinc 4 1, 3, 0, 0, 0) :: (61, .goto (-48), 3, 0, 0, 0) :: k_164_64
def k_164_55 : List CE := (55, .iload 5, 2, 0, 0, 0) :: (57, .istore_n 3, 1, 0, 0, 0) :: k_164_58
def k_164_49 : List CE := (49, .iload 5, 2, 0, 0, 0) :: (51, .iload_n 3, 1, 0, 0, 0) :: (52, .if_icmp .le 6, 3, 0, 0, 0) :: k_164_55
def k_164_33 : List CE := (33, .istore 5, 2, 0, 0, 0) :: (35, .iload_n 2, 1, 0, 0, 0) :: (36, .iconst 2, 1, 0, 0, 0) :: (37, .if_icmp .ge 12, 3, 0, 0, 0) :: (40, .iload 5, 2, 0, 0, 0) :: (42, .iload_n 3, 1, 0, 0, 0) :: (43, .if_icmp .ge 15, 3, 0, 0, 0) :: (46, .goto 9, 3, 0, 0, 0) :: k_164_49
def k_164_20 : List CE := (20, .if_icmp .ge 44, 3, 0, 0, 0) :: (23, .aload_n 0, 1, 0, 0, 0) :: (24, .iload_n 1, 1, 0, 0, 0) :: (25, .iload 4, 2, 0, 0, 0) :: (27, .iload_n 2, 1, 0, 0, 0) :: (28, .iconst 2, 1, 0, 0, 0) :: (29, .irem, 1, 0, 0, 0) :: (30, .invokevirtual 117, 3, 162, 4004, 7) :: k_164_33
def k_164_13 : List CE := (13, .iload 4, 2, 0, 0, 0) :: (15, .aload_n 0, 1, 0, 0, 0) :: (16, .iload_n 1, 1, 0, 0, 0) :: (17, .invokevirtual 101, 3, 158, 2002, 7) :: k_164_20
def k_164_9 : List CE := (9, .istore_n 3, 1, 0, 0, 0) :: (10, .iconst 1, 1, 0, 0, 0) :: (11, .istore 4, 2, 0, 0, 0) :: k_164_13
def k_164_0 : List CE := (0, .aload_n 0, 1, 0, 0, 0) :: (1, .iload_n 1, 1, 0, 0, 0) :: (2, .iconst 0, 1, 0, 0, 0) :: (3, .iload_n 2, 1, 0, 0, 0) :: (4, .iconst 2, 1, 0, 0, 0) :: (5, .irem, 1, 0, 0, 0) :: (6, .invokevirtual 117, 3, 162, 4004, 7) :: k_164_9
/-- PageInterpreter.doubleArea(I)J -/
def k_165_34 : List CE := (34, .lreturn, 1, 0, 0, 0) :: []
def k_165_32 : List CE := (32, .iload_n 2, 1, 0, 0, 0) :: (33, .i2l, 1, 0, 0, 0) :: k_165_34
def k_165_29 : List CE := (29, .goto 5, 3, 0, 0, 0) :: k_165_32
def k_165_13 : List CE := (13, .istore_n 2, 1, 0, 0, 0) :: (14, .iload_n 2, 1, 0, 0, 0) :: (15, .ifCond .ne 17, 3, 0, 0, 0) :: (18, .aload_n 0, 1, 0, 0, 0) :: (19, .getfield 30, 3, 0, 2, 3) :: (22, .getfield 140, 3, 4, 2, 2) :: (25, .iload_n 1, 1, 0, 0, 0) :: (26, .invokevirtual 175, 3, 166, 2002, 7) :: k_165_29
def k_165_8 : List CE := (8, .aload_n 0, 1, 0, 0, 0) :: (9, .iload_n 1, 1, 0, 0, 0) :: (10, .invokevirtual 160, 3, 155, 2002, 1) :: k_165_13
def k_165_0 : List CE := (0, .iload_n 1, 1, 0, 0, 0) :: (1, .ifCond .ge 7, 3, 0, 0, 0) :: (4, .ldc2_w 173, 3, 0, 0, (-10000001)) :: (7, .lreturn, 1, 0, 0, 0) :: k_165_8
/-- PageInterpreter$Items.findDoubleArea(I)J -/
def k_166_27 : List CE := (27, .lreturn, 1, 0, 0, 0) :: []
def k_166_24 : List CE := (24, .ldc2_w 124, 3, 0, 0, (-10000009)) :: k_166_27
def k_166_21 : List CE := (21, .goto 6, 3, 0, 0, 0) :: k_166_24
def k_166_5 : List CE := (5, .ifCond .eq 19, 3, 0, 0, 0) :: (8, .aload_n 0, 1, 0, 0, 0) :: (9, .getfield 12, 3, 6, 2, 0) :: (12, .aload_n 0, 1, 0, 0, 0) :: (13, .getfield 18, 3, 6, 2, 1) :: (16, .iload_n 1, 1, 0, 0, 0) :: (17, .iaload, 1, 0, 0, 0) :: (18, .invokevirtual 120, 3, 167, 2002, 6) :: k_166_21
def k_166_0 : List CE := (0, .aload_n 0, 1, 0, 0, 0) :: (1, .iload_n 1, 1, 0, 0, 0) :: (2, .invokevirtual 60, 3, 144, 2002, 7) :: k_166_5
/-- PageInterpreter$Paths.findDoubleArea(I)J -/
def k_167_109 : List CE := (109, .lreturn, 1, 0, 0, 0) :: []
def k_167_108 : List CE := (108, .lload_n 2, 1, 0, 0, 0) :: k_167_109
def k_167_97 : List CE := (97, .lload_n 2, 1, 0, 0, 0) :: (98, .lconst 0, 1, 0, 0, 0) :: (99, .lcmp, 1, 0, 0, 0) :: (100, .ifCond .ge 8, 3, 0, 0, 0) :: (103, .lload_n 2, 1, 0, 0, 0) :: (104, .lneg, 1, 0, 0, 0) :: (105, .goto 4, 3, 0, 0, 0) :: k_167_108
def k_167_51 : List CE := (51, .istore 7, 2, 0, 0, 0) :: (53, .lload_n 2, 1, 0, 0, 0) :: (54, .aload_n 0, 1, 0, 0, 0) :: (55, .getfield 9, 3, 5, 2, 0) :: (58, .iload 6, 2, 0, 0, 0) :: (60, .iaload, 1, 0, 0, 0) :: (61, .i2l, 1, 0, 0, 0) :: (62, .aload_n 0, 1, 0, 0, 0) :: (63, .getfield 15, 3, 5, 2, 1) :: (66, .iload 7, 2, 0, 0, 0) :: (68, .iaload, 1, 0, 0, 0) :: (69, .i2l, 1, 0, 0, 0) :: (70, .lmul, 1, 0, 0, 0) :: (71, .aload_n 0, 1, 0, 0, 0) :: (72, .getfield 9, 3, 5, 2, 0) :: (75, .iload 7, 2, 0, 0, 0) :: (77, .iaload, 1, 0, 0, 0) :: (78, .i2l, 1, 0, 0, 0) :: (79, .aload_n 0, 1, 0, 0, 0) :: (80, .getfield 15, 3, 5, 2, 1) :: (83, .iload 6, 2, 0, 0, 0) :: (85, .iaload, 1, 0, 0, 0) :: (86, .i2l, 1, 0, 0, 0) :: (87, .lmul, 1, 0, 0, 0) :: (88, .lsub, 1, 0, 0, 0) :: (89, .ladd, 1, 0, 0, 0) :: (90, .lstore_n 2, 1, 0, 0, 0) :: (91, .iinc 6 1, 3, 0, 0, 0) :: (94, .goto (-74), 3, 0, 0, 0) :: k_167_97
def k_167_41 : List CE := (41, .aload_n 0, 1, 0, 0, 0) :: (42, .iload 6, 2, 0, 0, 0) :: (44, .iload 5, 2, 0, 0, 0) :: (46, .iload 4, 2, 0, 0, 0) :: (48, .invokevirtual 50, 3, 147, 4004, 6) :: k_167_51
def k_167_20 : List CE := (20, .iload 6, 2, 0, 0, 0) :: (22, .iload 4, 2, 0, 0, 0) :: (24, .if_icmp .ge 73, 3, 0, 0, 0) :: (27, .aload_n 0, 1, 0, 0, 0) :: (28, .getfield 18, 3, 5, 2, 2) :: (31, .iload 6, 2, 0, 0, 0) :: (33, .baload, 1, 0, 0, 0) :: (34, .ifCond .eq 7, 3, 0, 0, 0) :: (37, .iload 6, 2, 0, 0, 0) :: (39, .istore 5, 2, 0, 0, 0) :: k_167_41
def k_167_14 : List CE := (14, .istore 5, 2, 0, 0, 0) :: (16, .iload 5, 2, 0, 0, 0) :: (18, .istore 6, 2, 0, 0, 0) :: k_167_20
def k_167_7 : List CE := (7, .istore 4, 2, 0, 0, 0) :: (9, .aload_n 0, 1, 0, 0, 0) :: (10, .iload_n 1, 1, 0, 0, 0) :: (11, .invokevirtual 39, 3, 102, 2002, 6) :: k_167_14
def k_167_0 : List CE := (0, .lconst 0, 1, 0, 0, 0) :: (1, .lstore_n 2, 1, 0, 0, 0) :: (2, .aload_n 0, 1, 0, 0, 0) :: (3, .iload_n 1, 1, 0, 0, 0) :: (4, .invokevirtual 47, 3, 146, 2002, 6) :: k_167_7
/-- PageInterpreterModel.<init>()V -/
def k_168_261 : List CE := (261, .aload_n 0, 1, 0, 0, 0) :: (262, .getfield 7, 3, 10, 2, 0) :: (265, .sipush 1213, 3, 0, 0, 0) :: (268, .bipush 12, 2, 0, 0, 0) :: (270, .iastore, 1, 0, 0, 0) :: (271, .aload_n 0, 1, 0, 0, 0) :: (272, .getfield 7, 3, 10, 2, 0) :: (275, .sipush 1214, 3, 0, 0, 0) :: (278, .bipush 12, 2, 0, 0, 0) :: (280, .iastore, 1, 0, 0, 0) :: (281, .aload_n 0, 1, 0, 0, 0) :: (282, .getfield 7, 3, 10, 2, 0) :: (285, .sipush 1215, 3, 0, 0, 0) :: (288, .bipush 120, 2, 0, 0, 0) :: (290, .iastore, 1, 0, 0, 0) :: (291, .return_, 1, 0, 0, 0) :: []
def k_168_236 : List CE := (236, .iload_n 1, 1, 0, 0, 0) :: (237, .bipush 7, 2, 0, 0, 0) :: (239, .if_icmp .ge 22, 3, 0, 0, 0) :: (242, .aload_n 0, 1, 0, 0, 0) :: (243, .getfield 7, 3, 10, 2, 0) :: (246, .iconst 0, 1, 0, 0, 0) :: (247, .sipush 161, 3, 0, 0, 0) :: (250, .iload_n 1, 1, 0, 0, 0) :: (251, .imul, 1, 0, 0, 0) :: (252, .iadd, 1, 0, 0, 0) :: (253, .iconst (-1), 1, 0, 0, 0) :: (254, .iastore, 1, 0, 0, 0) :: (255, .iinc 1 1, 3, 0, 0, 0) :: (258, .goto (-22), 3, 0, 0, 0) :: k_168_261
def k_168_0 : List CE := (0, .aload_n 0, 1, 0, 0, 0) :: (1, .invokespecial 1, 3, 0, 0, (-1)) :: (4, .aload_n 0, 1, 0, 0, 0) :: (5, .sipush 1216, 3, 0, 0, 0) :: (8, .newarray .int, 2, 100, 0, 0) :: (10, .putfield 7, 3, 10, 2, 0) :: (13, .aload_n 0, 1, 0, 0, 0) :: (14, .sipush 7296, 3, 0, 0, 0) :: (17, .newarray .int, 2, 100, 0, 0) :: (19, .putfield 13, 3, 10, 2, 1) :: (22, .aload_n 0, 1, 0, 0, 0) :: (23, .sipush 160, 3, 0, 0, 0) :: (26, .newarray .int, 2, 100, 0, 0) :: (28, .putfield 16, 3, 10, 2, 3) :: (31, .aload_n 0, 1, 0, 0, 0) :: (32, .bipush 9, 2, 0, 0, 0) :: (34, .newarray .int, 2, 100, 0, 0) :: (36, .putfield 19, 3, 10, 2, 8) :: (39, .aload_n 0, 1, 0, 0, 0) :: (40, .sipush 160, 3, 0, 0, 0) :: (43, .newarray .int, 2, 100, 0, 0) :: (45, .putfield 22, 3, 10, 2, 13) :: (48, .aload_n 0, 1, 0, 0, 0) :: (49, .bipush 20, 2, 0, 0, 0) :: (51, .newarray .int, 2, 100, 0, 0) :: (53, .putfield 25, 3, 10, 2, 17) :: (56, .aload_n 0, 1, 0, 0, 0) :: (57, .sipush 800, 3, 0, 0, 0) :: (60, .newarray .int, 2, 100, 0, 0) :: (62, .putfield 28, 3, 10, 2, 18) :: (65, .aload_n 0, 1, 0, 0, 0) :: (66, .bipush 28, 2, 0, 0, 0) :: (68, .newarray .int, 2, 100, 0, 0) :: (70, .putfield 31, 3, 10, 2, 22) :: (73, .aload_n 0, 1, 0, 0, 0) :: (74, .bipush 28, 2, 0, 0, 0) :: (76, .newarray .int, 2, 100, 0, 0) :: (78, .putfield 34, 3, 10, 2, 23) :: (81, .aload_n 0, 1, 0, 0, 0) :: (82, .bipush 28, 2, 0, 0, 0) :: (84, .newarray .int, 2, 100, 0, 0) :: (86, .putfield 37, 3, 10, 2, 24) :: (89, .aload_n 0, 1, 0, 0, 0) :: (90, .sipush 4848, 3, 0, 0, 0) :: (93, .newarray .int, 2, 100, 0, 0) :: (95, .putfield 40, 3, 10, 2, 28) :: (98, .aload_n 0, 1, 0, 0, 0) :: (99, .sipush 4848, 3, 0, 0, 0) :: (102, .newarray .int, 2, 100, 0, 0) :: (104, .putfield 43, 3, 10, 2, 29) :: (107, .aload_n 0, 1, 0, 0, 0) :: (108, .sipush 4848, 3, 0, 0, 0) :: (111, .newarray .int, 2, 100, 0, 0) :: (113, .putfield 46, 3, 10, 2, 30) :: (116, .aload_n 0, 1, 0, 0, 0) :: (117, .sipush 202, 3, 0, 0, 0) :: (120, .newarray .int, 2, 100, 0, 0) :: (122, .putfield 49, 3, 10, 2, 31) :: (125, .aload_n 0, 1, 0, 0, 0) :: (126, .sipush 202, 3, 0, 0, 0) :: (129, .newarray .int, 2, 100, 0, 0) :: (131, .putfield 52, 3, 10, 2, 32) :: (134, .aload_n 0, 1, 0, 0, 0) :: (135, .sipush 360, 3, 0, 0, 0) :: (138, .newarray .int, 2, 100, 0, 0) :: (140, .putfield 55, 3, 10, 2, 34) :: (143, .aload_n 0, 1, 0, 0, 0) :: (144, .iconst 5, 1, 0, 0, 0) :: (145, .newarray .int, 2, 100, 0, 0) :: (147, .putfield 58, 3, 10, 2, 37) :: (150, .aload_n 0, 1, 0, 0, 0) :: (151, .iconst 5, 1, 0, 0, 0) :: (152, .newarray .int, 2, 100, 0, 0) :: (154, .putfield 61, 3, 10, 2, 38) :: (157, .aload_n 0, 1, 0, 0, 0) :: (158, .iconst 5, 1, 0, 0, 0) :: (159, .newarray .int, 2, 100, 0, 0) :: (161, .putfield 64, 3, 10, 2, 39) :: (164, .aload_n 0, 1, 0, 0, 0) :: (165, .bipush 80, 2, 0, 0, 0) :: (167, .newarray .int, 2, 100, 0, 0) :: (169, .putfield 67, 3, 10, 2, 40) :: (172, .aload_n 0, 1, 0, 0, 0) :: (173, .bipush 80, 2, 0, 0, 0) :: (175, .newarray .int, 2, 100, 0, 0) :: (177, .putfield 70, 3, 10, 2, 41) :: (180, .aload_n 0, 1, 0, 0, 0) :: (181, .iconst 5, 1, 0, 0, 0) :: (182, .newarray .int, 2, 100, 0, 0) :: (184, .putfield 73, 3, 10, 2, 42) :: (187, .aload_n 0, 1, 0, 0, 0) :: (188, .bipush 15, 2, 0, 0, 0) :: (190, .newarray .int, 2, 100, 0, 0) :: (192, .putfield 76, 3, 10, 2, 43) :: (195, .aload_n 0, 1, 0, 0, 0) :: (196, .bipush 15, 2, 0, 0, 0) :: (198, .newarray .int, 2, 100, 0, 0) :: (200, .putfield 79, 3, 10, 2, 44) :: (203, .aload_n 0, 1, 0, 0, 0) :: (204, .sipush 600, 3, 0, 0, 0) :: (207, .newarray .int, 2, 100, 0, 0) :: (209, .putfield 82, 3, 10, 2, 51) :: (212, .aload_n 0, 1, 0, 0, 0) :: (213, .bipush 12, 2, 0, 0, 0) :: (215, .newarray .int, 2, 100, 0, 0) :: (217, .putfield 85, 3, 10, 2, 52) :: (220, .aload_n 0, 1, 0, 0, 0) :: (221, .iconst 4, 1, 0, 0, 0) :: (222, .newarray .int, 2, 100, 0, 0) :: (224, .putfield 88, 3, 10, 2, 53) :: (227, .aload_n 0, 1, 0, 0, 0) :: (228, .iconst 4, 1, 0, 0, 0) :: (229, .newarray .int, 2, 100, 0, 0) :: (231, .putfield 91, 3, 10, 2, 54) :: (234, .iconst 0, 1, 0, 0, 0) :: (235, .istore_n 1, 1, 0, 0, 0) :: k_168_236
/-- PageInterpreterModel.append(I)I -/
def k_169_27 : List CE := (27, .aload_n 0, 1, 0, 0, 0) :: (28, .getfield 16, 3, 10, 2, 3) :: (31, .aload_n 0, 1, 0, 0, 0) :: (32, .getfield 103, 3, 10, 0, 4) :: (35, .iload_n 1, 1, 0, 0, 0) :: (36, .iastore, 1, 0, 0, 0) :: (37, .aload_n 0, 1, 0, 0, 0) :: (38, .dup, 1, 0, 0, 0) :: (39, .getfield 103, 3, 10, 0, 4) :: (42, .iconst 1, 1, 0, 0, 0) :: (43, .iadd, 1, 0, 0, 0) :: (44, .putfield 103, 3, 10, 0, 4) :: (47, .aload_n 0, 1, 0, 0, 0) :: (48, .getfield 103, 3, 10, 0, 4) :: (51, .ireturn, 1, 0, 0, 0) :: []
def k_169_14 : List CE := (14, .aload_n 0, 1, 0, 0, 0) :: (15, .getfield 103, 3, 10, 0, 4) :: (18, .sipush 160, 3, 0, 0, 0) :: (21, .if_icmp .ne 6, 3, 0, 0, 0) :: (24, .ldc 106, 2, 0, 0, (-10000003)) :: (26, .ireturn, 1, 0, 0, 0) :: k_169_27
def k_169_8 : List CE := (8, .ifCond .ne 6, 3, 0, 0, 0) :: (11, .ldc 102, 2, 0, 0, (-10000001)) :: (13, .ireturn, 1, 0, 0, 0) :: k_169_14
def k_169_0 : List CE := (0, .iload_n 1, 1, 0, 0, 0) :: (1, .iconst 1, 1, 0, 0, 0) :: (2, .sipush 255, 3, 0, 0, 0) :: (5, .invokestatic 98, 3, 170, 3003, 0) :: k_169_8
/-- PageInterpreterModel.in(III)Z -/
def k_170_15 : List CE := (15, .ireturn, 1, 1, 0, 0) :: []
def k_170_14 : List CE := (14, .iconst 0, 1, 0, 0, 0) :: k_170_15
def k_170_0 : List CE := (0, .iload_n 0, 1, 0, 0, 0) :: (1, .iload_n 1, 1, 0, 0, 0) :: (2, .if_icmp .lt 12, 3, 0, 0, 0) :: (5, .iload_n 0, 1, 0, 0, 0) :: (6, .iload_n 2, 1, 0, 0, 0) :: (7, .if_icmp .gt 7, 3, 0, 0, 0) :: (10, .iconst 1, 1, 0, 0, 0) :: (11, .goto 4, 3, 0, 0, 0) :: k_170_14
/-- PageInterpreterModel.clearBuffer()I -/
def k_171_0 : List CE := (0, .aload_n 0, 1, 0, 0, 0) :: (1, .getfield 103, 3, 10, 0, 4) :: (4, .istore_n 1, 1, 0, 0, 0) :: (5, .aload_n 0, 1, 0, 0, 0) :: (6, .iconst 0, 1, 0, 0, 0) :: (7, .putfield 103, 3, 10, 0, 4) :: (10, .iload_n 1, 1, 0, 0, 0) :: (11, .ireturn, 1, 0, 0, 0) :: []
/-- PageInterpreterModel.setStream(I)I -/
def k_172_160 : List CE := (160, .aload_n 0, 1, 0, 0, 0) :: (161, .iconst 0, 1, 0, 0, 0) :: (162, .putfield 103, 3, 10, 0, 4) :: (165, .iload_n 2, 1, 0, 0, 0) :: (166, .ireturn, 1, 0, 0, 0) :: []
def k_172_130 : List CE := (130, .iload 4, 2, 0, 0, 0) :: (132, .iload_n 2, 1, 0, 0, 0) :: (133, .if_icmp .ge 27, 3, 0, 0, 0) :: (136, .aload_n 0, 1, 0, 0, 0) :: (137, .getfield 7, 3, 10, 2, 0) :: (140, .iload_n 3, 1, 0, 0, 0) :: (141, .iconst 1, 1, 0, 0, 0) :: (142, .iadd, 1, 0, 0, 0) :: (143, .iload 4, 2, 0, 0, 0) :: (145, .iadd, 1, 0, 0, 0) :: (146, .aload_n 0, 1, 0, 0, 0) :: (147, .getfield 22, 3, 10, 2, 13) :: (150, .iload 4, 2, 0, 0, 0) :: (152, .iaload, 1, 0, 0, 0) :: (153, .iastore, 1, 0, 0, 0) :: (154, .iinc 4 1, 3, 0, 0, 0) :: (157, .goto (-27), 3, 0, 0, 0) :: k_172_160
def k_172_110 : List CE := (110, .iconst 0, 1, 0, 0, 0) :: (111, .sipush 161, 3, 0, 0, 0) :: (114, .iload_n 1, 1, 0, 0, 0) :: (115, .iconst 1, 1, 0, 0, 0) :: (116, .iadd, 1, 0, 0, 0) :: (117, .imul, 1, 0, 0, 0) :: (118, .iadd, 1, 0, 0, 0) :: (119, .istore_n 3, 1, 0, 0, 0) :: (120, .aload_n 0, 1, 0, 0, 0) :: (121, .getfield 7, 3, 10, 2, 0) :: (124, .iload_n 3, 1, 0, 0, 0) :: (125, .iload_n 2, 1, 0, 0, 0) :: (126, .iastore, 1, 0, 0, 0) :: (127, .iconst 0, 1, 0, 0, 0) :: (128, .istore 4, 2, 0, 0, 0) :: k_172_130
def k_172_106 : List CE := (106, .aload_n 0, 1, 0, 0, 0) :: (107, .invokevirtual 218, 3, 185, 1001, 11) :: k_172_110
def k_172_98 : List CE := (98, .bipush (-10), 2, 0, 0, 0) :: (100, .aload_n 0, 1, 0, 0, 0) :: (101, .getfield 103, 3, 10, 0, 4) :: (104, .isub, 1, 0, 0, 0) :: (105, .ireturn, 1, 0, 0, 0) :: k_172_106
def k_172_84 : List CE := (84, .aload_n 0, 1, 0, 0, 0) :: (85, .getfield 185, 3, 10, 0, 9) :: (88, .ifCond .gt 10, 3, 0, 0, 0) :: (91, .aload_n 0, 1, 0, 0, 0) :: (92, .getfield 188, 3, 10, 3, 10) :: (95, .ifCond .eq 11, 3, 0, 0, 0) :: k_172_98
def k_172_68 : List CE := (68, .aload_n 0, 1, 0, 0, 0) :: (69, .getfield 22, 3, 10, 2, 13) :: (72, .iload_n 2, 1, 0, 0, 0) :: (73, .aload_n 0, 1, 0, 0, 0) :: (74, .getfield 121, 3, 10, 0, 7) :: (77, .iastore, 1, 0, 0, 0) :: (78, .iinc 2 1, 3, 0, 0, 0) :: (81, .goto (-42), 3, 0, 0, 0) :: k_172_84
def k_172_60 : List CE := (60, .bipush (-10), 2, 0, 0, 0) :: (62, .aload_n 0, 1, 0, 0, 0) :: (63, .getfield 110, 3, 10, 0, 5) :: (66, .isub, 1, 0, 0, 0) :: (67, .ireturn, 1, 0, 0, 0) :: k_172_68
def k_172_57 : List CE := (57, .ifCond .ne 11, 3, 0, 0, 0) :: k_172_60
def k_172_43 : List CE := (43, .ifCond .eq 41, 3, 0, 0, 0) :: (46, .aload_n 0, 1, 0, 0, 0) :: (47, .getfield 121, 3, 10, 0, 7) :: (50, .ifCond .lt 10, 3, 0, 0, 0) :: (53, .aload_n 0, 1, 0, 0, 0) :: (54, .invokevirtual 215, 3, 180, 1001, 11) :: k_172_57
def k_172_39 : List CE := (39, .aload_n 0, 1, 0, 0, 0) :: (40, .invokevirtual 212, 3, 173, 1001, 11) :: k_172_43
def k_172_12 : List CE := (12, .aload_n 0, 1, 0, 0, 0) :: (13, .iconst 0, 1, 0, 0, 0) :: (14, .putfield 107, 3, 10, 0, 6) :: (17, .aload_n 0, 1, 0, 0, 0) :: (18, .iconst 0, 1, 0, 0, 0) :: (19, .putfield 185, 3, 10, 0, 9) :: (22, .aload_n 0, 1, 0, 0, 0) :: (23, .iconst 0, 1, 0, 0, 0) :: (24, .putfield 188, 3, 10, 3, 10) :: (27, .aload_n 0, 1, 0, 0, 0) :: (28, .iconst 0, 1, 0, 0, 0) :: (29, .putfield 205, 3, 10, 3, 11) :: (32, .aload_n 0, 1, 0, 0, 0) :: (33, .iconst 0, 1, 0, 0, 0) :: (34, .putfield 196, 3, 10, 3, 12) :: (37, .iconst 0, 1, 0, 0, 0) :: (38, .istore_n 2, 1, 0, 0, 0) :: k_172_39
def k_172_6 : List CE := (6, .ifCond .ne 6, 3, 0, 0, 0) :: (9, .ldc 102, 2, 0, 0, (-10000001)) :: (11, .ireturn, 1, 0, 0, 0) :: k_172_12
def k_172_0 : List CE := (0, .iload_n 1, 1, 0, 0, 0) :: (1, .iconst (-1), 1, 0, 0, 0) :: (2, .iconst 5, 1, 0, 0, 0) :: (3, .invokestatic 98, 3, 170, 3003, 0) :: k_172_6
/-- PageInterpreterModel.isRead()Z -/
def k_173_306 : List CE := (306, .iconst 1, 1, 0, 0, 0) :: (307, .ireturn, 1, 1, 0, 0) :: []
def k_173_291 : List CE := (291, .aload_n 0, 1, 0, 0, 0) :: (292, .iconst (-1), 1, 0, 0, 0) :: (293, .putfield 121, 3, 10, 0, 7) :: (296, .aload_n 0, 1, 0, 0, 0) :: (297, .dup, 1, 0, 0, 0) :: (298, .getfield 107, 3, 10, 0, 6) :: (301, .iconst 1, 1, 0, 0, 0) :: (302, .iadd, 1, 0, 0, 0) :: (303, .putfield 107, 3, 10, 0, 6) :: k_173_306
def k_173_275 : List CE := (275, .putfield 121, 3, 10, 0, 7) :: (278, .aload_n 0, 1, 0, 0, 0) :: (279, .dup, 1, 0, 0, 0) :: (280, .getfield 107, 3, 10, 0, 6) :: (283, .iconst 2, 1, 0, 0, 0) :: (284, .iadd, 1, 0, 0, 0) :: (285, .putfield 107, 3, 10, 0, 6) :: (288, .goto 18, 3, 0, 0, 0) :: k_173_291
def k_173_274 : List CE := (274, .iconst (-1), 1, 0, 0, 0) :: k_173_275
def k_173_251 : List CE := (251, .ifCond .eq 23, 3, 0, 0, 0) :: (254, .bipush 100, 2, 0, 0, 0) :: (256, .aload_n 0, 1, 0, 0, 0) :: (257, .getfield 16, 3, 10, 2, 3) :: (260, .aload_n 0, 1, 0, 0, 0) :: (261, .getfield 107, 3, 10, 0, 6) :: (264, .iconst 1, 1, 0, 0, 0) :: (265, .iadd, 1, 0, 0, 0) :: (266, .iaload, 1, 0, 0, 0) :: (267, .iadd, 1, 0, 0, 0) :: (268, .bipush 65, 2, 0, 0, 0) :: (270, .isub, 1, 0, 0, 0) :: (271, .goto 4, 3, 0, 0, 0) :: k_173_274
def k_173_205 : List CE := (205, .aload_n 0, 1, 0, 0, 0) :: (206, .getfield 16, 3, 10, 2, 3) :: (209, .aload_n 0, 1, 0, 0, 0) :: (210, .getfield 107, 3, 10, 0, 6) :: (213, .iaload, 1, 0, 0, 0) :: (214, .bipush 36, 2, 0, 0, 0) :: (216, .if_icmp .ne 75, 3, 0, 0, 0) :: (219, .aload_n 0, 1, 0, 0, 0) :: (220, .getfield 107, 3, 10, 0, 6) :: (223, .iconst 1, 1, 0, 0, 0) :: (224, .iadd, 1, 0, 0, 0) :: (225, .aload_n 0, 1, 0, 0, 0) :: (226, .getfield 103, 3, 10, 0, 4) :: (229, .if_icmp .ge 62, 3, 0, 0, 0) :: (232, .aload_n 0, 1, 0, 0, 0) :: (233, .aload_n 0, 1, 0, 0, 0) :: (234, .getfield 16, 3, 10, 2, 3) :: (237, .aload_n 0, 1, 0, 0, 0) :: (238, .getfield 107, 3, 10, 0, 6) :: (241, .iconst 1, 1, 0, 0, 0) :: (242, .iadd, 1, 0, 0, 0) :: (243, .iaload, 1, 0, 0, 0) :: (244, .bipush 65, 2, 0, 0, 0) :: (246, .bipush 72, 2, 0, 0, 0) :: (248, .invokestatic 98, 3, 170, 3003, 0) :: k_173_251
def k_173_199 : List CE := (199, .putfield 121, 3, 10, 0, 7) :: (202, .goto 104, 3, 0, 0, 0) :: k_173_205
def k_173_198 : List CE := (198, .iconst (-1), 1, 0, 0, 0) :: k_173_199
def k_173_195 : List CE := (195, .goto 4, 3, 0, 0, 0) :: k_173_198
def k_173_176 : List CE := (176, .aload_n 0, 1, 0, 0, 0) :: (177, .aload_n 0, 1, 0, 0, 0) :: (178, .getfield 107, 3, 10, 0, 6) :: (181, .aload_n 0, 1, 0, 0, 0) :: (182, .getfield 110, 3, 10, 0, 5) :: (185, .isub, 1, 0, 0, 0) :: (186, .bipush 8, 2, 0, 0, 0) :: (188, .if_icmp .ge 10, 3, 0, 0, 0) :: (191, .lload_n 1, 1, 0, 0, 0) :: (192, .invokestatic 127, 3, 179, 2001, 0) :: k_173_195
def k_173_162 : List CE := (162, .lstore_n 1, 1, 0, 0, 0) :: (163, .aload_n 0, 1, 0, 0, 0) :: (164, .dup, 1, 0, 0, 0) :: (165, .getfield 107, 3, 10, 0, 6) :: (168, .iconst 1, 1, 0, 0, 0) :: (169, .iadd, 1, 0, 0, 0) :: (170, .putfield 107, 3, 10, 0, 6) :: (173, .goto (-55), 3, 0, 0, 0) :: k_173_176
def k_173_161 : List CE := (161, .lconst 0, 1, 0, 0, 0) :: k_173_162
def k_173_126 : List CE := (126, .ifCond .eq 50, 3, 0, 0, 0) :: (129, .aload_n 0, 1, 0, 0, 0) :: (130, .getfield 107, 3, 10, 0, 6) :: (133, .aload_n 0, 1, 0, 0, 0) :: (134, .getfield 110, 3, 10, 0, 5) :: (137, .isub, 1, 0, 0, 0) :: (138, .bipush 7, 2, 0, 0, 0) :: (140, .if_icmp .ge 21, 3, 0, 0, 0) :: (143, .lload_n 1, 1, 0, 0, 0) :: (144, .bipush 8, 2, 0, 0, 0) :: (146, .lshl, 1, 0, 0, 0) :: (147, .aload_n 0, 1, 0, 0, 0) :: (148, .getfield 16, 3, 10, 2, 3) :: (151, .aload_n 0, 1, 0, 0, 0) :: (152, .getfield 107, 3, 10, 0, 6) :: (155, .iaload, 1, 0, 0, 0) :: (156, .i2l, 1, 0, 0, 0) :: (157, .lor, 1, 0, 0, 0) :: (158, .goto 4, 3, 0, 0, 0) :: k_173_161
def k_173_118 : List CE := (118, .aload_n 0, 1, 0, 0, 0) :: (119, .aload_n 0, 1, 0, 0, 0) :: (120, .getfield 107, 3, 10, 0, 6) :: (123, .invokevirtual 124, 3, 178, 2002, 11) :: k_173_126
def k_173_113 : List CE := (113, .ifCond .eq 92, 3, 0, 0, 0) :: (116, .lconst 0, 1, 0, 0, 0) :: (117, .lstore_n 1, 1, 0, 0, 0) :: k_173_118
def k_173_105 : List CE := (105, .aload_n 0, 1, 0, 0, 0) :: (106, .aload_n 0, 1, 0, 0, 0) :: (107, .getfield 107, 3, 10, 0, 6) :: (110, .invokevirtual 124, 3, 178, 2002, 11) :: k_173_113
def k_173_99 : List CE := (99, .putfield 121, 3, 10, 0, 7) :: (102, .goto 204, 3, 0, 0, 0) :: k_173_105
def k_173_94 : List CE := (94, .aload_n 0, 1, 0, 0, 0) :: (95, .aload_n 0, 1, 0, 0, 0) :: (96, .invokevirtual 117, 3, 175, 1001, 11) :: k_173_99
def k_173_78 : List CE := (78, .ifCond .eq 16, 3, 0, 0, 0) :: (81, .aload_n 0, 1, 0, 0, 0) :: (82, .dup, 1, 0, 0, 0) :: (83, .getfield 107, 3, 10, 0, 6) :: (86, .iconst 1, 1, 0, 0, 0) :: (87, .iadd, 1, 0, 0, 0) :: (88, .putfield 107, 3, 10, 0, 6) :: (91, .goto (-21), 3, 0, 0, 0) :: k_173_94
def k_173_70 : List CE := (70, .aload_n 0, 1, 0, 0, 0) :: (71, .aload_n 0, 1, 0, 0, 0) :: (72, .getfield 107, 3, 10, 0, 6) :: (75, .invokevirtual 113, 3, 174, 2002, 11) :: k_173_78
def k_173_67 : List CE := (67, .ifCond .eq 38, 3, 0, 0, 0) :: k_173_70
def k_173_59 : List CE := (59, .aload_n 0, 1, 0, 0, 0) :: (60, .aload_n 0, 1, 0, 0, 0) :: (61, .getfield 107, 3, 10, 0, 6) :: (64, .invokevirtual 113, 3, 174, 2002, 11) :: k_173_67
def k_173_38 : List CE := (38, .aload_n 0, 1, 0, 0, 0) :: (39, .aload_n 0, 1, 0, 0, 0) :: (40, .getfield 107, 3, 10, 0, 6) :: (43, .putfield 110, 3, 10, 0, 5) :: (46, .aload_n 0, 1, 0, 0, 0) :: (47, .getfield 107, 3, 10, 0, 6) :: (50, .aload_n 0, 1, 0, 0, 0) :: (51, .getfield 103, 3, 10, 0, 4) :: (54, .if_icmp .ne 5, 3, 0, 0, 0) :: (57, .iconst 0, 1, 0, 0, 0) :: (58, .ireturn, 1, 1, 0, 0) :: k_173_59
def k_173_0 : List CE := (0, .aload_n 0, 1, 0, 0, 0) :: (1, .getfield 107, 3, 10, 0, 6) :: (4, .aload_n 0, 1, 0, 0, 0) :: (5, .getfield 103, 3, 10, 0, 4) :: (8, .if_icmp .ge 30, 3, 0, 0, 0) :: (11, .aload_n 0, 1, 0, 0, 0) :: (12, .getfield 16, 3, 10, 2, 3) :: (15, .aload_n 0, 1, 0, 0, 0) :: (16, .getfield 107, 3, 10, 0, 6) :: (19, .iaload, 1, 0, 0, 0) :: (20, .bipush 32, 2, 0, 0, 0) :: (22, .if_icmp .ne 16, 3, 0, 0, 0) :: (25, .aload_n 0, 1, 0, 0, 0) :: (26, .dup, 1, 0, 0, 0) :: (27, .getfield 107, 3, 10, 0, 6) :: (30, .iconst 1, 1, 0, 0, 0) :: (31, .iadd, 1, 0, 0, 0) :: (32, .putfield 107, 3, 10, 0, 6) :: (35, .goto (-35), 3, 0, 0, 0) :: k_173_38
/-- PageInterpreterModel.isNumeral(I)Z -/
def k_174_51 : List CE := (51, .ireturn, 1, 1, 0, 0) :: []
def k_174_50 : List CE := (50, .iconst 0, 1, 0, 0, 0) :: k_174_51
def k_174_46 : List CE := (46, .iconst 1, 1, 0, 0, 0) :: (47, .goto 4, 3, 0, 0, 0) :: k_174_50
def k_174_21 : List CE := (21, .ifCond .ne 25, 3, 0, 0, 0) :: (24, .aload_n 0, 1, 0, 0, 0) :: (25, .getfield 16, 3, 10, 2, 3) :: (28, .iload_n 1, 1, 0, 0, 0) :: (29, .iaload, 1, 0, 0, 0) :: (30, .bipush 45, 2, 0, 0, 0) :: (32, .if_icmp .eq 14, 3, 0, 0, 0) :: (35, .aload_n 0, 1, 0, 0, 0) :: (36, .getfield 16, 3, 10, 2, 3) :: (39, .iload_n 1, 1, 0, 0, 0) :: (40, .iaload, 1, 0, 0, 0) :: (41, .bipush 47, 2, 0, 0, 0) :: (43, .if_icmp .ne 7, 3, 0, 0, 0) :: k_174_46
def k_174_0 : List CE := (0, .iload_n 1, 1, 0, 0, 0) :: (1, .aload_n 0, 1, 0, 0, 0) :: (2, .getfield 103, 3, 10, 0, 4) :: (5, .if_icmp .ge 45, 3, 0, 0, 0) :: (8, .aload_n 0, 1, 0, 0, 0) :: (9, .getfield 16, 3, 10, 2, 3) :: (12, .iload_n 1, 1, 0, 0, 0) :: (13, .iaload, 1, 0, 0, 0) :: (14, .bipush 48, 2, 0, 0, 0) :: (16, .bipush 57, 2, 0, 0, 0) :: (18, .invokestatic 98, 3, 170, 3003, 0) :: k_174_21
/-- PageInterpreterModel.numberCode()I -/
def k_175_204 : List CE := (204, .iload 7, 2, 0, 0, 0) :: (206, .idiv, 1, 0, 0, 0) :: (207, .sipush 1000, 3, 0, 0, 0) :: (210, .iadd, 1, 0, 0, 0) :: (211, .imul, 1, 0, 0, 0) :: (212, .iadd, 1, 0, 0, 0) :: (213, .iload 6, 2, 0, 0, 0) :: (215, .iload 7, 2, 0, 0, 0) :: (217, .idiv, 1, 0, 0, 0) :: (218, .iadd, 1, 0, 0, 0) :: (219, .ireturn, 1, 0, 0, 0) :: []
def k_175_202 : List CE := (202, .iload 4, 2, 0, 0, 0) :: k_175_204
def k_175_184 : List CE := (184, .l2i, 1, 0, 0, 0) :: (185, .istore 7, 2, 0, 0, 0) :: (187, .sipush 10000, 3, 0, 0, 0) :: (190, .bipush 16, 2, 0, 0, 0) :: (192, .iload_n 1, 1, 0, 0, 0) :: (193, .ifCond .eq 9, 3, 0, 0, 0) :: (196, .iload 4, 2, 0, 0, 0) :: (198, .ineg, 1, 0, 0, 0) :: (199, .goto 5, 3, 0, 0, 0) :: k_175_202
def k_175_175 : List CE := (175, .iload 4, 2, 0, 0, 0) :: (177, .i2l, 1, 0, 0, 0) :: (178, .iload 6, 2, 0, 0, 0) :: (180, .i2l, 1, 0, 0, 0) :: (181, .invokestatic 135, 3, 177, 4002, 0) :: k_175_184
def k_175_165 : List CE := (165, .iload_n 2, 1, 0, 0, 0) :: (166, .aload_n 0, 1, 0, 0, 0) :: (167, .getfield 107, 3, 10, 0, 6) :: (170, .if_icmp .ge 5, 3, 0, 0, 0) :: (173, .iconst (-1), 1, 0, 0, 0) :: (174, .ireturn, 1, 0, 0, 0) :: k_175_175
def k_175_146 : List CE := (146, .ifCond .eq 19, 3, 0, 0, 0) :: (149, .aload_n 0, 1, 0, 0, 0) :: (150, .getfield 16, 3, 10, 2, 3) :: (153, .iload_n 2, 1, 0, 0, 0) :: (154, .iconst 1, 1, 0, 0, 0) :: (155, .iadd, 1, 0, 0, 0) :: (156, .iaload, 1, 0, 0, 0) :: (157, .bipush 48, 2, 0, 0, 0) :: (159, .isub, 1, 0, 0, 0) :: (160, .istore 6, 2, 0, 0, 0) :: (162, .iinc 2 2, 3, 0, 0, 0) :: k_175_165
def k_175_116 : List CE := (116, .iconst 1, 1, 0, 0, 0) :: (117, .istore 6, 2, 0, 0, 0) :: (119, .iload_n 2, 1, 0, 0, 0) :: (120, .aload_n 0, 1, 0, 0, 0) :: (121, .getfield 107, 3, 10, 0, 6) :: (124, .if_icmp .ge 41, 3, 0, 0, 0) :: (127, .aload_n 0, 1, 0, 0, 0) :: (128, .getfield 16, 3, 10, 2, 3) :: (131, .iload_n 2, 1, 0, 0, 0) :: (132, .iaload, 1, 0, 0, 0) :: (133, .bipush 47, 2, 0, 0, 0) :: (135, .if_icmp .ne 30, 3, 0, 0, 0) :: (138, .aload_n 0, 1, 0, 0, 0) :: (139, .iload_n 2, 1, 0, 0, 0) :: (140, .iconst 1, 1, 0, 0, 0) :: (141, .iadd, 1, 0, 0, 0) :: (142, .iconst 2, 1, 0, 0, 0) :: (143, .invokevirtual 131, 3, 176, 3003, 11) :: k_175_146
def k_175_114 : List CE := (114, .iconst (-1), 1, 0, 0, 0) :: (115, .ireturn, 1, 0, 0, 0) :: k_175_116
def k_175_94 : List CE := (94, .ifCond .eq 20, 3, 0, 0, 0) :: (97, .iload 5, 2, 0, 0, 0) :: (99, .iconst 1, 1, 0, 0, 0) :: (100, .if_icmp .le 16, 3, 0, 0, 0) :: (103, .aload_n 0, 1, 0, 0, 0) :: (104, .getfield 16, 3, 10, 2, 3) :: (107, .iload_n 3, 1, 0, 0, 0) :: (108, .iaload, 1, 0, 0, 0) :: (109, .bipush 48, 2, 0, 0, 0) :: (111, .if_icmp .ne 5, 3, 0, 0, 0) :: k_175_114
def k_175_82 : List CE := (82, .iload_n 2, 1, 0, 0, 0) :: (83, .iload_n 3, 1, 0, 0, 0) :: (84, .isub, 1, 0, 0, 0) :: (85, .istore 5, 2, 0, 0, 0) :: (87, .iload 5, 2, 0, 0, 0) :: (89, .iconst 1, 1, 0, 0, 0) :: (90, .iconst 3, 1, 0, 0, 0) :: (91, .invokestatic 98, 3, 170, 3003, 0) :: k_175_94
def k_175_49 : List CE := (49, .ifCond .eq 33, 3, 0, 0, 0) :: (52, .iload_n 2, 1, 0, 0, 0) :: (53, .iload_n 3, 1, 0, 0, 0) :: (54, .isub, 1, 0, 0, 0) :: (55, .iconst 4, 1, 0, 0, 0) :: (56, .if_icmp .ge 26, 3, 0, 0, 0) :: (59, .bipush 10, 2, 0, 0, 0) :: (61, .iload 4, 2, 0, 0, 0) :: (63, .imul, 1, 0, 0, 0) :: (64, .aload_n 0, 1, 0, 0, 0) :: (65, .getfield 16, 3, 10, 2, 3) :: (68, .iload_n 2, 1, 0, 0, 0) :: (69, .iaload, 1, 0, 0, 0) :: (70, .iadd, 1, 0, 0, 0) :: (71, .bipush 48, 2, 0, 0, 0) :: (73, .isub, 1, 0, 0, 0) :: (74, .istore 4, 2, 0, 0, 0) :: (76, .iinc 2 1, 3, 0, 0, 0) :: (79, .goto (-36), 3, 0, 0, 0) :: k_175_82
def k_175_43 : List CE := (43, .aload_n 0, 1, 0, 0, 0) :: (44, .iload_n 2, 1, 0, 0, 0) :: (45, .iconst 0, 1, 0, 0, 0) :: (46, .invokevirtual 131, 3, 176, 3003, 11) :: k_175_49
def k_175_37 : List CE := (37, .istore_n 2, 1, 0, 0, 0) :: (38, .iload_n 2, 1, 0, 0, 0) :: (39, .istore_n 3, 1, 0, 0, 0) :: (40, .iconst 0, 1, 0, 0, 0) :: (41, .istore 4, 2, 0, 0, 0) :: k_175_43
def k_175_33 : List CE := (33, .aload_n 0, 1, 0, 0, 0) :: (34, .getfield 110, 3, 10, 0, 5) :: k_175_37
def k_175_19 : List CE := (19, .istore_n 1, 1, 0, 0, 0) :: (20, .iload_n 1, 1, 0, 0, 0) :: (21, .ifCond .eq 12, 3, 0, 0, 0) :: (24, .aload_n 0, 1, 0, 0, 0) :: (25, .getfield 110, 3, 10, 0, 5) :: (28, .iconst 1, 1, 0, 0, 0) :: (29, .iadd, 1, 0, 0, 0) :: (30, .goto 7, 3, 0, 0, 0) :: k_175_33
def k_175_18 : List CE := (18, .iconst 0, 1, 0, 0, 0) :: k_175_19
def k_175_0 : List CE := (0, .aload_n 0, 1, 0, 0, 0) :: (1, .getfield 16, 3, 10, 2, 3) :: (4, .aload_n 0, 1, 0, 0, 0) :: (5, .getfield 110, 3, 10, 0, 5) :: (8, .iaload, 1, 0, 0, 0) :: (9, .bipush 45, 2, 0, 0, 0) :: (11, .if_icmp .ne 7, 3, 0, 0, 0) :: (14, .iconst 1, 1, 0, 0, 0) :: (15, .goto 4, 3, 0, 0, 0) :: k_175_18
/-- PageInterpreterModel.isDigit(II)Z -/
def k_176_31 : List CE := (31, .ireturn, 1, 1, 0, 0) :: []
def k_176_30 : List CE := (30, .iconst 0, 1, 0, 0, 0) :: k_176_31
def k_176_23 : List CE := (23, .ifCond .eq 7, 3, 0, 0, 0) :: (26, .iconst 1, 1, 0, 0, 0) :: (27, .goto 4, 3, 0, 0, 0) :: k_176_30
def k_176_0 : List CE := (0, .iload_n 1, 1, 0, 0, 0) :: (1, .aload_n 0, 1, 0, 0, 0) :: (2, .getfield 107, 3, 10, 0, 6) :: (5, .if_icmp .ge 25, 3, 0, 0, 0) :: (8, .aload_n 0, 1, 0, 0, 0) :: (9, .getfield 16, 3, 10, 2, 3) :: (12, .iload_n 1, 1, 0, 0, 0) :: (13, .iaload, 1, 0, 0, 0) :: (14, .bipush 48, 2, 0, 0, 0) :: (16, .iload_n 2, 1, 0, 0, 0) :: (17, .iadd, 1, 0, 0, 0) :: (18, .bipush 57, 2, 0, 0, 0) :: (20, .invokestatic 98, 3, 170, 3003, 0) :: k_176_23
/-- PageInterpreterModel.divisor(JJ)J -/
def k_177_53 : List CE := (53, .lload 4, 2, 0, 0, 0) :: (55, .lreturn, 1, 0, 0, 0) :: []
def k_177_28 : List CE := (28, .lload 6, 2, 0, 0, 0) :: (30, .lconst 0, 1, 0, 0, 0) :: (31, .lcmp, 1, 0, 0, 0) :: (32, .ifCond .eq 21, 3, 0, 0, 0) :: (35, .lload 4, 2, 0, 0, 0) :: (37, .lload 6, 2, 0, 0, 0) :: (39, .lrem, 1, 0, 0, 0) :: (40, .lstore 8, 2, 0, 0, 0) :: (42, .lload 6, 2, 0, 0, 0) :: (44, .lstore 4, 2, 0, 0, 0) :: (46, .lload 8, 2, 0, 0, 0) :: (48, .lstore 6, 2, 0, 0, 0) :: (50, .goto (-22), 3, 0, 0, 0) :: k_177_53
def k_177_26 : List CE := (26, .lstore 6, 2, 0, 0, 0) :: k_177_28
def k_177_25 : List CE := (25, .lload_n 2, 1, 0, 0, 0) :: k_177_26
def k_177_12 : List CE := (12, .lstore 4, 2, 0, 0, 0) :: (14, .lload_n 2, 1, 0, 0, 0) :: (15, .lconst 0, 1, 0, 0, 0) :: (16, .lcmp, 1, 0, 0, 0) :: (17, .ifCond .ge 8, 3, 0, 0, 0) :: (20, .lload_n 2, 1, 0, 0, 0) :: (21, .lneg, 1, 0, 0, 0) :: (22, .goto 4, 3, 0, 0, 0) :: k_177_25
def k_177_11 : List CE := (11, .lload_n 0, 1, 0, 0, 0) :: k_177_12
def k_177_0 : List CE := (0, .lload_n 0, 1, 0, 0, 0) :: (1, .lconst 0, 1, 0, 0, 0) :: (2, .lcmp, 1, 0, 0, 0) :: (3, .ifCond .ge 8, 3, 0, 0, 0) :: (6, .lload_n 0, 1, 0, 0, 0) :: (7, .lneg, 1, 0, 0, 0) :: (8, .goto 4, 3, 0, 0, 0) :: k_177_11
/-- PageInterpreterModel.isLetter(I)Z -/
def k_178_29 : List CE := (29, .ireturn, 1, 1, 0, 0) :: []
def k_178_28 : List CE := (28, .iconst 0, 1, 0, 0, 0) :: k_178_29
def k_178_21 : List CE := (21, .ifCond .eq 7, 3, 0, 0, 0) :: (24, .iconst 1, 1, 0, 0, 0) :: (25, .goto 4, 3, 0, 0, 0) :: k_178_28
def k_178_0 : List CE := (0, .iload_n 1, 1, 0, 0, 0) :: (1, .aload_n 0, 1, 0, 0, 0) :: (2, .getfield 103, 3, 10, 0, 4) :: (5, .if_icmp .ge 23, 3, 0, 0, 0) :: (8, .aload_n 0, 1, 0, 0, 0) :: (9, .getfield 16, 3, 10, 2, 3) :: (12, .iload_n 1, 1, 0, 0, 0) :: (13, .iaload, 1, 0, 0, 0) :: (14, .bipush 97, 2, 0, 0, 0) :: (16, .bipush 122, 2, 0, 0, 0) :: (18, .invokestatic 98, 3, 170, 3003, 0) :: k_178_21
/-- PageInterpreterModel.operatorOf(J)I -/
def k_179_318 : List CE := (318, .ireturn, 1, 0, 0, 0) :: []
def k_179_316 : List CE := (316, .iload 4, 2, 0, 0, 0) :: k_179_318
def k_179_308 : List CE := (308, .iload_n 3, 1, 0, 0, 0) :: (309, .ifCond .lt 7, 3, 0, 0, 0) :: (312, .iload_n 3, 1, 0, 0, 0) :: (313, .goto 5, 3, 0, 0, 0) :: k_179_316
def k_179_298 : List CE := (298, .istore 4, 2, 0, 0, 0) :: (300, .iload_n 2, 1, 0, 0, 0) :: (301, .ifCond .lt 7, 3, 0, 0, 0) :: (304, .iload_n 2, 1, 0, 0, 0) :: (305, .goto 13, 3, 0, 0, 0) :: k_179_308
def k_179_297 : List CE := (297, .iconst (-1), 1, 0, 0, 0) :: k_179_298
def k_179_284 : List CE := (284, .lload_n 0, 1, 0, 0, 0) :: (285, .ldc2_w 183, 3, 0, 0, 6580598) :: (288, .lcmp, 1, 0, 0, 0) :: (289, .ifCond .ne 8, 3, 0, 0, 0) :: (292, .bipush 22, 2, 0, 0, 0) :: (294, .goto 4, 3, 0, 0, 0) :: k_179_297
def k_179_271 : List CE := (271, .lload_n 0, 1, 0, 0, 0) :: (272, .ldc2_w 181, 3, 0, 0, 7173484) :: (275, .lcmp, 1, 0, 0, 0) :: (276, .ifCond .ne 8, 3, 0, 0, 0) :: (279, .bipush 21, 2, 0, 0, 0) :: (281, .goto 17, 3, 0, 0, 0) :: k_179_284
def k_179_258 : List CE := (258, .lload_n 0, 1, 0, 0, 0) :: (259, .ldc2_w 179, 3, 0, 0, 7566690) :: (262, .lcmp, 1, 0, 0, 0) :: (263, .ifCond .ne 8, 3, 0, 0, 0) :: (266, .bipush 20, 2, 0, 0, 0) :: (268, .goto 30, 3, 0, 0, 0) :: k_179_271
def k_179_245 : List CE := (245, .lload_n 0, 1, 0, 0, 0) :: (246, .ldc2_w 177, 3, 0, 0, 6382692) :: (249, .lcmp, 1, 0, 0, 0) :: (250, .ifCond .ne 8, 3, 0, 0, 0) :: (253, .bipush 19, 2, 0, 0, 0) :: (255, .goto 43, 3, 0, 0, 0) :: k_179_258
def k_179_232 : List CE := (232, .lload_n 0, 1, 0, 0, 0) :: (233, .ldc2_w 175, 3, 0, 0, 1702388584) :: (236, .lcmp, 1, 0, 0, 0) :: (237, .ifCond .ne 8, 3, 0, 0, 0) :: (240, .bipush 18, 2, 0, 0, 0) :: (242, .goto 56, 3, 0, 0, 0) :: k_179_245
def k_179_219 : List CE := (219, .lload_n 0, 1, 0, 0, 0) :: (220, .ldc2_w 173, 3, 0, 0, 7368560) :: (223, .lcmp, 1, 0, 0, 0) :: (224, .ifCond .ne 8, 3, 0, 0, 0) :: (227, .bipush 17, 2, 0, 0, 0) :: (229, .goto 69, 3, 0, 0, 0) :: k_179_232
def k_179_205 : List CE := (205, .istore_n 3, 1, 0, 0, 0) :: (206, .lload_n 0, 1, 0, 0, 0) :: (207, .ldc2_w 171, 3, 0, 0, 6583664) :: (210, .lcmp, 1, 0, 0, 0) :: (211, .ifCond .ne 8, 3, 0, 0, 0) :: (214, .bipush 16, 2, 0, 0, 0) :: (216, .goto 82, 3, 0, 0, 0) :: k_179_219
def k_179_204 : List CE := (204, .iconst (-1), 1, 0, 0, 0) :: k_179_205
def k_179_191 : List CE := (191, .lload_n 0, 1, 0, 0, 0) :: (192, .ldc2_w 169, 3, 0, 0, 1852143732) :: (195, .lcmp, 1, 0, 0, 0) :: (196, .ifCond .ne 8, 3, 0, 0, 0) :: (199, .bipush 15, 2, 0, 0, 0) :: (201, .goto 4, 3, 0, 0, 0) :: k_179_204
def k_179_178 : List CE := (178, .lload_n 0, 1, 0, 0, 0) :: (179, .ldc2_w 167, 3, 0, 0, 125780002955636) :: (182, .lcmp, 1, 0, 0, 0) :: (183, .ifCond .ne 8, 3, 0, 0, 0) :: (186, .bipush 14, 2, 0, 0, 0) :: (188, .goto 17, 3, 0, 0, 0) :: k_179_191
def k_179_165 : List CE := (165, .lload_n 0, 1, 0, 0, 0) :: (166, .ldc2_w 165, 3, 0, 0, 1685217655) :: (169, .lcmp, 1, 0, 0, 0) :: (170, .ifCond .ne 8, 3, 0, 0, 0) :: (173, .bipush 13, 2, 0, 0, 0) :: (175, .goto 30, 3, 0, 0, 0) :: k_179_178
def k_179_152 : List CE := (152, .lload_n 0, 1, 0, 0, 0) :: (153, .ldc2_w 163, 3, 0, 0, 427071139698) :: (156, .lcmp, 1, 0, 0, 0) :: (157, .ifCond .ne 8, 3, 0, 0, 0) :: (160, .bipush 12, 2, 0, 0, 0) :: (162, .goto 43, 3, 0, 0, 0) :: k_179_165
def k_179_139 : List CE := (139, .lload_n 0, 1, 0, 0, 0) :: (140, .ldc2_w 161, 3, 0, 0, 1685221232) :: (143, .lcmp, 1, 0, 0, 0) :: (144, .ifCond .ne 8, 3, 0, 0, 0) :: (147, .bipush 11, 2, 0, 0, 0) :: (149, .goto 56, 3, 0, 0, 0) :: k_179_152
def k_179_126 : List CE := (126, .lload_n 0, 1, 0, 0, 0) :: (127, .ldc2_w 159, 3, 0, 0, 517114260588) :: (130, .lcmp, 1, 0, 0, 0) :: (131, .ifCond .ne 8, 3, 0, 0, 0) :: (134, .bipush 10, 2, 0, 0, 0) :: (136, .goto 69, 3, 0, 0, 0) :: k_179_139
def k_179_113 : List CE := (113, .lload_n 0, 1, 0, 0, 0) :: (114, .ldc2_w 157, 3, 0, 0, 1718185068) :: (117, .lcmp, 1, 0, 0, 0) :: (118, .ifCond .ne 8, 3, 0, 0, 0) :: (121, .bipush 9, 2, 0, 0, 0) :: (123, .goto 82, 3, 0, 0, 0) :: k_179_126
def k_179_99 : List CE := (99, .istore_n 2, 1, 0, 0, 0) :: (100, .lload_n 0, 1, 0, 0, 0) :: (101, .ldc2_w 155, 3, 0, 0, 517064124784) :: (104, .lcmp, 1, 0, 0, 0) :: (105, .ifCond .ne 8, 3, 0, 0, 0) :: (108, .bipush 8, 2, 0, 0, 0) :: (110, .goto 95, 3, 0, 0, 0) :: k_179_113
def k_179_98 : List CE := (98, .iconst (-1), 1, 0, 0, 0) :: k_179_99
def k_179_85 : List CE := (85, .lload_n 0, 1, 0, 0, 0) :: (86, .ldc2_w 153, 3, 0, 0, 1668049264) :: (89, .lcmp, 1, 0, 0, 0) :: (90, .ifCond .ne 8, 3, 0, 0, 0) :: (93, .bipush 7, 2, 0, 0, 0) :: (95, .goto 4, 3, 0, 0, 0) :: k_179_98
def k_179_72 : List CE := (72, .lload_n 0, 1, 0, 0, 0) :: (73, .ldc2_w 151, 3, 0, 0, 1919247220) :: (76, .lcmp, 1, 0, 0, 0) :: (77, .ifCond .ne 8, 3, 0, 0, 0) :: (80, .bipush 6, 2, 0, 0, 0) :: (82, .goto 17, 3, 0, 0, 0) :: k_179_85
def k_179_60 : List CE := (60, .lload_n 0, 1, 0, 0, 0) :: (61, .ldc2_w 149, 3, 0, 0, 427021005669) :: (64, .lcmp, 1, 0, 0, 0) :: (65, .ifCond .ne 7, 3, 0, 0, 0) :: (68, .iconst 5, 1, 0, 0, 0) :: (69, .goto 30, 3, 0, 0, 0) :: k_179_72
def k_179_48 : List CE := (48, .lload_n 0, 1, 0, 0, 0) :: (49, .ldc2_w 147, 3, 0, 0, 1818848869) :: (52, .lcmp, 1, 0, 0, 0) :: (53, .ifCond .ne 7, 3, 0, 0, 0) :: (56, .iconst 4, 1, 0, 0, 0) :: (57, .goto 42, 3, 0, 0, 0) :: k_179_60
def k_179_36 : List CE := (36, .lload_n 0, 1, 0, 0, 0) :: (37, .ldc2_w 145, 3, 0, 0, 1836021349) :: (40, .lcmp, 1, 0, 0, 0) :: (41, .ifCond .ne 7, 3, 0, 0, 0) :: (44, .iconst 3, 1, 0, 0, 0) :: (45, .goto 54, 3, 0, 0, 0) :: k_179_48
def k_179_24 : List CE := (24, .lload_n 0, 1, 0, 0, 0) :: (25, .ldc2_w 143, 3, 0, 0, 109330244526452) :: (28, .lcmp, 1, 0, 0, 0) :: (29, .ifCond .ne 7, 3, 0, 0, 0) :: (32, .iconst 2, 1, 0, 0, 0) :: (33, .goto 66, 3, 0, 0, 0) :: k_179_36
def k_179_12 : List CE := (12, .lload_n 0, 1, 0, 0, 0) :: (13, .ldc2_w 141, 3, 0, 0, 32199693894120037) :: (16, .lcmp, 1, 0, 0, 0) :: (17, .ifCond .ne 7, 3, 0, 0, 0) :: (20, .iconst 1, 1, 0, 0, 0) :: (21, .goto 78, 3, 0, 0, 0) :: k_179_24
def k_179_0 : List CE := (0, .lload_n 0, 1, 0, 0, 0) :: (1, .ldc2_w 139, 3, 0, 0, 1935767141) :: (4, .lcmp, 1, 0, 0, 0) :: (5, .ifCond .ne 7, 3, 0, 0, 0) :: (8, .iconst 0, 1, 0, 0, 0) :: (9, .goto 90, 3, 0, 0, 0) :: k_179_12
/-- PageInterpreterModel.isAllowed()Z -/
def k_180_275 : List CE := (275, .ireturn, 1, 1, 0, 0) :: []
def k_180_274 : List CE := (274, .iconst 0, 1, 0, 0, 0) :: k_180_275
def k_180_270 : List CE := (270, .iconst 1, 1, 0, 0, 0) :: (271, .goto 4, 3, 0, 0, 0) :: k_180_274
def k_180_235 : List CE := (235, .aload_n 0, 1, 0, 0, 0) :: (236, .getfield 121, 3, 10, 0, 7) :: (239, .bipush 16, 2, 0, 0, 0) :: (241, .if_icmp .lt 33, 3, 0, 0, 0) :: (244, .aload_n 0, 1, 0, 0, 0) :: (245, .getfield 121, 3, 10, 0, 7) :: (248, .bipush 100, 2, 0, 0, 0) :: (250, .if_icmp .lt 20, 3, 0, 0, 0) :: (253, .aload_n 0, 1, 0, 0, 0) :: (254, .getfield 121, 3, 10, 0, 7) :: (257, .sipush 10000, 3, 0, 0, 0) :: (260, .if_icmp .ge 10, 3, 0, 0, 0) :: (263, .aload_n 0, 1, 0, 0, 0) :: (264, .getfield 188, 3, 10, 3, 10) :: (267, .ifCond .ne 7, 3, 0, 0, 0) :: k_180_270
def k_180_234 : List CE := (234, .ireturn, 1, 1, 0, 0) :: k_180_235
def k_180_233 : List CE := (233, .iconst 0, 1, 0, 0, 0) :: k_180_234
def k_180_222 : List CE := (222, .aload_n 0, 1, 0, 0, 0) :: (223, .getfield 188, 3, 10, 3, 10) :: (226, .ifCond .ne 7, 3, 0, 0, 0) :: (229, .iconst 1, 1, 0, 0, 0) :: (230, .goto 4, 3, 0, 0, 0) :: k_180_233
def k_180_210 : List CE := (210, .aload_n 0, 1, 0, 0, 0) :: (211, .getfield 188, 3, 10, 3, 10) :: (214, .istore_n 1, 1, 0, 0, 0) :: (215, .aload_n 0, 1, 0, 0, 0) :: (216, .iconst 0, 1, 0, 0, 0) :: (217, .putfield 188, 3, 10, 3, 10) :: (220, .iload_n 1, 1, 0, 0, 0) :: (221, .ireturn, 1, 1, 0, 0) :: k_180_222
def k_180_209 : List CE := (209, .ireturn, 1, 1, 0, 0) :: k_180_210
def k_180_205 : List CE := (205, .aload_n 0, 1, 0, 0, 0) :: (206, .invokevirtual 208, 3, 184, 1001, 11) :: k_180_209
def k_180_197 : List CE := (197, .istore_n 1, 1, 0, 0, 0) :: (198, .aload_n 0, 1, 0, 0, 0) :: (199, .iconst 0, 1, 0, 0, 0) :: (200, .putfield 205, 3, 10, 3, 11) :: (203, .iload_n 1, 1, 0, 0, 0) :: (204, .ireturn, 1, 1, 0, 0) :: k_180_205
def k_180_196 : List CE := (196, .iconst 0, 1, 0, 0, 0) :: k_180_197
def k_180_178 : List CE := (178, .aload_n 0, 1, 0, 0, 0) :: (179, .getfield 188, 3, 10, 3, 10) :: (182, .ifCond .eq 14, 3, 0, 0, 0) :: (185, .aload_n 0, 1, 0, 0, 0) :: (186, .getfield 205, 3, 10, 3, 11) :: (189, .ifCond .eq 7, 3, 0, 0, 0) :: (192, .iconst 1, 1, 0, 0, 0) :: (193, .goto 4, 3, 0, 0, 0) :: k_180_196
def k_180_177 : List CE := (177, .ireturn, 1, 1, 0, 0) :: k_180_178
def k_180_176 : List CE := (176, .iconst 0, 1, 0, 0, 0) :: k_180_177
def k_180_158 : List CE := (158, .aload_n 0, 1, 0, 0, 0) :: (159, .getfield 188, 3, 10, 3, 10) :: (162, .ifCond .eq 14, 3, 0, 0, 0) :: (165, .aload_n 0, 1, 0, 0, 0) :: (166, .getfield 205, 3, 10, 3, 11) :: (169, .ifCond .eq 7, 3, 0, 0, 0) :: (172, .iconst 1, 1, 0, 0, 0) :: (173, .goto 4, 3, 0, 0, 0) :: k_180_176
def k_180_153 : List CE := (153, .putfield 205, 3, 10, 3, 11) :: (156, .iconst 1, 1, 0, 0, 0) :: (157, .ireturn, 1, 1, 0, 0) :: k_180_158
def k_180_152 : List CE := (152, .iconst 0, 1, 0, 0, 0) :: k_180_153
def k_180_131 : List CE := (131, .putfield 196, 3, 10, 3, 12) :: (134, .aload_n 0, 1, 0, 0, 0) :: (135, .iconst 1, 1, 0, 0, 0) :: (136, .putfield 188, 3, 10, 3, 10) :: (139, .aload_n 0, 1, 0, 0, 0) :: (140, .aload_n 0, 1, 0, 0, 0) :: (141, .getfield 121, 3, 10, 0, 7) :: (144, .iconst 3, 1, 0, 0, 0) :: (145, .if_icmp .ne 7, 3, 0, 0, 0) :: (148, .iconst 1, 1, 0, 0, 0) :: (149, .goto 4, 3, 0, 0, 0) :: k_180_152
def k_180_130 : List CE := (130, .iconst 0, 1, 0, 0, 0) :: k_180_131
def k_180_111 : List CE := (111, .aload_n 0, 1, 0, 0, 0) :: (112, .aload_n 0, 1, 0, 0, 0) :: (113, .getfield 188, 3, 10, 3, 10) :: (116, .ifCond .eq 14, 3, 0, 0, 0) :: (119, .aload_n 0, 1, 0, 0, 0) :: (120, .getfield 196, 3, 10, 3, 12) :: (123, .ifCond .eq 7, 3, 0, 0, 0) :: (126, .iconst 1, 1, 0, 0, 0) :: (127, .goto 4, 3, 0, 0, 0) :: k_180_130
def k_180_110 : List CE := (110, .ireturn, 1, 1, 0, 0) :: k_180_111
def k_180_105 : List CE := (105, .aload_n 0, 1, 0, 0, 0) :: (106, .iconst 1, 1, 0, 0, 0) :: (107, .invokevirtual 202, 3, 183, 2002, 11) :: k_180_110
def k_180_104 : List CE := (104, .ireturn, 1, 1, 0, 0) :: k_180_105
def k_180_98 : List CE := (98, .aload_n 0, 1, 0, 0, 0) :: (99, .iconst 1, 1, 0, 0, 0) :: (100, .iconst 3, 1, 0, 0, 0) :: (101, .invokevirtual 199, 3, 181, 3003, 11) :: k_180_104
def k_180_97 : List CE := (97, .ireturn, 1, 1, 0, 0) :: k_180_98
def k_180_92 : List CE := (92, .aload_n 0, 1, 0, 0, 0) :: (93, .iconst 0, 1, 0, 0, 0) :: (94, .invokevirtual 202, 3, 183, 2002, 11) :: k_180_97
def k_180_91 : List CE := (91, .ireturn, 1, 1, 0, 0) :: k_180_92
def k_180_84 : List CE := (84, .aload_n 0, 1, 0, 0, 0) :: (85, .iconst 0, 1, 0, 0, 0) :: (86, .bipush 6, 2, 0, 0, 0) :: (88, .invokevirtual 199, 3, 181, 3003, 11) :: k_180_91
def k_180_0 : List CE := (0, .aload_n 0, 1, 0, 0, 0) :: (1, .getfield 121, 3, 10, 0, 7) :: (4, .tableswitch 231 0 15 #[80, 88, 218, 107, 154, 174, 107, 201, 201, 206, 206, 206, 218, 218, 94, 101], 80, 0, 0, 0) :: k_180_84
/-- PageInterpreterModel.opens(II)Z -/
def k_181_46 : List CE := (46, .iload_n 3, 1, 0, 0, 0) :: (47, .ireturn, 1, 1, 0, 0) :: []
def k_181_21 : List CE := (21, .istore_n 3, 1, 0, 0, 0) :: (22, .iload_n 3, 1, 0, 0, 0) :: (23, .ifCond .eq 23, 3, 0, 0, 0) :: (26, .aload_n 0, 1, 0, 0, 0) :: (27, .getfield 19, 3, 10, 2, 8) :: (30, .aload_n 0, 1, 0, 0, 0) :: (31, .getfield 185, 3, 10, 0, 9) :: (34, .iload_n 1, 1, 0, 0, 0) :: (35, .iastore, 1, 0, 0, 0) :: (36, .aload_n 0, 1, 0, 0, 0) :: (37, .dup, 1, 0, 0, 0) :: (38, .getfield 185, 3, 10, 0, 9) :: (41, .iconst 1, 1, 0, 0, 0) :: (42, .iadd, 1, 0, 0, 0) :: (43, .putfield 185, 3, 10, 0, 9) :: k_181_46
def k_181_20 : List CE := (20, .iconst 0, 1, 0, 0, 0) :: k_181_21
def k_181_12 : List CE := (12, .iload_n 2, 1, 0, 0, 0) :: (13, .if_icmp .ge 7, 3, 0, 0, 0) :: (16, .iconst 1, 1, 0, 0, 0) :: (17, .goto 4, 3, 0, 0, 0) :: k_181_20
def k_181_0 : List CE := (0, .aload_n 0, 1, 0, 0, 0) :: (1, .getfield 188, 3, 10, 3, 10) :: (4, .ifCond .ne 16, 3, 0, 0, 0) :: (7, .aload_n 0, 1, 0, 0, 0) :: (8, .iload_n 1, 1, 0, 0, 0) :: (9, .invokevirtual 192, 3, 182, 2002, 11) :: k_181_12
/-- PageInterpreterModel.openOf(I)I -/
def k_182_36 : List CE := (36, .iload_n 2, 1, 0, 0, 0) :: (37, .ireturn, 1, 0, 0, 0) :: []
def k_182_28 : List CE := (28, .iadd, 1, 0, 0, 0) :: (29, .istore_n 2, 1, 0, 0, 0) :: (30, .iinc 3 1, 3, 0, 0, 0) :: (33, .goto (-29), 3, 0, 0, 0) :: k_182_36
def k_182_27 : List CE := (27, .iconst 0, 1, 0, 0, 0) :: k_182_28
def k_182_4 : List CE := (4, .iload_n 3, 1, 0, 0, 0) :: (5, .aload_n 0, 1, 0, 0, 0) :: (6, .getfield 185, 3, 10, 0, 9) :: (9, .if_icmp .ge 27, 3, 0, 0, 0) :: (12, .iload_n 2, 1, 0, 0, 0) :: (13, .aload_n 0, 1, 0, 0, 0) :: (14, .getfield 19, 3, 10, 2, 8) :: (17, .iload_n 3, 1, 0, 0, 0) :: (18, .iaload, 1, 0, 0, 0) :: (19, .iload_n 1, 1, 0, 0, 0) :: (20, .if_icmp .ne 7, 3, 0, 0, 0) :: (23, .iconst 1, 1, 0, 0, 0) :: (24, .goto 4, 3, 0, 0, 0) :: k_182_27
def k_182_0 : List CE := (0, .iconst 0, 1, 0, 0, 0) :: (1, .istore_n 2, 1, 0, 0, 0) :: (2, .iconst 0, 1, 0, 0, 0) :: (3, .istore_n 3, 1, 0, 0, 0) :: k_182_4
/-- PageInterpreterModel.closes(I)Z -/
def k_183_49 : List CE := (49, .isub, 1, 0, 0, 0) :: (50, .putfield 185, 3, 10, 0, 9) :: (53, .iload_n 2, 1, 0, 0, 0) :: (54, .ireturn, 1, 1, 0, 0) :: []
def k_183_48 : List CE := (48, .iconst 0, 1, 0, 0, 0) :: k_183_49
def k_183_34 : List CE := (34, .istore_n 2, 1, 0, 0, 0) :: (35, .aload_n 0, 1, 0, 0, 0) :: (36, .dup, 1, 0, 0, 0) :: (37, .getfield 185, 3, 10, 0, 9) :: (40, .iload_n 2, 1, 0, 0, 0) :: (41, .ifCond .eq 7, 3, 0, 0, 0) :: (44, .iconst 1, 1, 0, 0, 0) :: (45, .goto 4, 3, 0, 0, 0) :: k_183_48
def k_183_33 : List CE := (33, .iconst 0, 1, 0, 0, 0) :: k_183_34
def k_183_0 : List CE := (0, .aload_n 0, 1, 0, 0, 0) :: (1, .getfield 188, 3, 10, 3, 10) :: (4, .ifCond .ne 29, 3, 0, 0, 0) :: (7, .aload_n 0, 1, 0, 0, 0) :: (8, .getfield 185, 3, 10, 0, 9) :: (11, .ifCond .le 22, 3, 0, 0, 0) :: (14, .aload_n 0, 1, 0, 0, 0) :: (15, .getfield 19, 3, 10, 2, 8) :: (18, .aload_n 0, 1, 0, 0, 0) :: (19, .getfield 185, 3, 10, 0, 9) :: (22, .iconst 1, 1, 0, 0, 0) :: (23, .isub, 1, 0, 0, 0) :: (24, .iaload, 1, 0, 0, 0) :: (25, .iload_n 1, 1, 0, 0, 0) :: (26, .if_icmp .ne 7, 3, 0, 0, 0) :: (29, .iconst 1, 1, 0, 0, 0) :: (30, .goto 4, 3, 0, 0, 0) :: k_183_33
/-- PageInterpreterModel.marks()Z -/
def k_184_37 : List CE := (37, .putfield 196, 3, 10, 3, 12) :: (40, .iload_n 1, 1, 0, 0, 0) :: (41, .ireturn, 1, 1, 0, 0) :: []
def k_184_36 : List CE := (36, .iconst 0, 1, 0, 0, 0) :: k_184_37
def k_184_32 : List CE := (32, .iconst 1, 1, 0, 0, 0) :: (33, .goto 4, 3, 0, 0, 0) :: k_184_36
def k_184_19 : List CE := (19, .istore_n 1, 1, 0, 0, 0) :: (20, .aload_n 0, 1, 0, 0, 0) :: (21, .aload_n 0, 1, 0, 0, 0) :: (22, .getfield 196, 3, 10, 3, 12) :: (25, .ifCond .ne 7, 3, 0, 0, 0) :: (28, .iload_n 1, 1, 0, 0, 0) :: (29, .ifCond .eq 7, 3, 0, 0, 0) :: k_184_32
def k_184_18 : List CE := (18, .iconst 0, 1, 0, 0, 0) :: k_184_19
def k_184_0 : List CE := (0, .aload_n 0, 1, 0, 0, 0) :: (1, .getfield 188, 3, 10, 3, 10) :: (4, .ifCond .eq 14, 3, 0, 0, 0) :: (7, .aload_n 0, 1, 0, 0, 0) :: (8, .getfield 196, 3, 10, 3, 12) :: (11, .ifCond .ne 7, 3, 0, 0, 0) :: (14, .iconst 1, 1, 0, 0, 0) :: (15, .goto 4, 3, 0, 0, 0) :: k_184_18
/-- PageInterpreterModel.save()V -/
def k_185_86 : List CE := (86, .aload_n 0, 1, 0, 0, 0) :: (87, .dup, 1, 0, 0, 0) :: (88, .getfield 94, 3, 10, 0, 2) :: (91, .iconst 1, 1, 0, 0, 0) :: (92, .iadd, 1, 0, 0, 0) :: (93, .putfield 94, 3, 10, 0, 2) :: (96, .return_, 1, 0, 0, 0) :: []
def k_185_52 : List CE := (52, .iload_n 1, 1, 0, 0, 0) :: (53, .sipush 1216, 3, 0, 0, 0) :: (56, .if_icmp .ge 30, 3, 0, 0, 0) :: (59, .aload_n 0, 1, 0, 0, 0) :: (60, .getfield 13, 3, 10, 2, 1) :: (63, .sipush 1216, 3, 0, 0, 0) :: (66, .aload_n 0, 1, 0, 0, 0) :: (67, .getfield 94, 3, 10, 0, 2) :: (70, .imul, 1, 0, 0, 0) :: (71, .iload_n 1, 1, 0, 0, 0) :: (72, .iadd, 1, 0, 0, 0) :: (73, .aload_n 0, 1, 0, 0, 0) :: (74, .getfield 7, 3, 10, 2, 0) :: (77, .iload_n 1, 1, 0, 0, 0) :: (78, .iaload, 1, 0, 0, 0) :: (79, .iastore, 1, 0, 0, 0) :: (80, .iinc 1 1, 3, 0, 0, 0) :: (83, .goto (-31), 3, 0, 0, 0) :: k_185_86
def k_185_50 : List CE := (50, .iconst 0, 1, 0, 0, 0) :: (51, .istore_n 1, 1, 0, 0, 0) :: k_185_52
def k_185_40 : List CE := (40, .aload_n 0, 1, 0, 0, 0) :: (41, .dup, 1, 0, 0, 0) :: (42, .getfield 94, 3, 10, 0, 2) :: (45, .iconst 1, 1, 0, 0, 0) :: (46, .isub, 1, 0, 0, 0) :: (47, .putfield 94, 3, 10, 0, 2) :: k_185_50
def k_185_11 : List CE := (11, .iload_n 1, 1, 0, 0, 0) :: (12, .sipush 6080, 3, 0, 0, 0) :: (15, .if_icmp .ge 25, 3, 0, 0, 0) :: (18, .aload_n 0, 1, 0, 0, 0) :: (19, .getfield 13, 3, 10, 2, 1) :: (22, .iload_n 1, 1, 0, 0, 0) :: (23, .aload_n 0, 1, 0, 0, 0) :: (24, .getfield 13, 3, 10, 2, 1) :: (27, .iload_n 1, 1, 0, 0, 0) :: (28, .sipush 1216, 3, 0, 0, 0) :: (31, .iadd, 1, 0, 0, 0) :: (32, .iaload, 1, 0, 0, 0) :: (33, .iastore, 1, 0, 0, 0) :: (34, .iinc 1 1, 3, 0, 0, 0) :: (37, .goto (-26), 3, 0, 0, 0) :: k_185_40
def k_185_0 : List CE := (0, .aload_n 0, 1, 0, 0, 0) :: (1, .getfield 94, 3, 10, 0, 2) :: (4, .bipush 6, 2, 0, 0, 0) :: (6, .if_icmp .ne 44, 3, 0, 0, 0) :: (9, .iconst 0, 1, 0, 0, 0) :: (10, .istore_n 1, 1, 0, 0, 0) :: k_185_11
/-- PageInterpreterModel.tokenCount(I)I -/
def k_186_37 : List CE := (37, .ireturn, 1, 0, 0, 0) :: []
def k_186_36 : List CE := (36, .iload_n 2, 1, 0, 0, 0) :: k_186_37
def k_186_12 : List CE := (12, .aload_n 0, 1, 0, 0, 0) :: (13, .getfield 7, 3, 10, 2, 0) :: (16, .iconst 0, 1, 0, 0, 0) :: (17, .sipush 161, 3, 0, 0, 0) :: (20, .iload_n 1, 1, 0, 0, 0) :: (21, .iconst 1, 1, 0, 0, 0) :: (22, .iadd, 1, 0, 0, 0) :: (23, .imul, 1, 0, 0, 0) :: (24, .iadd, 1, 0, 0, 0) :: (25, .iaload, 1, 0, 0, 0) :: (26, .istore_n 2, 1, 0, 0, 0) :: (27, .iload_n 2, 1, 0, 0, 0) :: (28, .ifCond .ge 8, 3, 0, 0, 0) :: (31, .ldc 221, 2, 0, 0, (-10000009)) :: (33, .goto 4, 3, 0, 0, 0) :: k_186_36
def k_186_6 : List CE := (6, .ifCond .ne 6, 3, 0, 0, 0) :: (9, .ldc 102, 2, 0, 0, (-10000001)) :: (11, .ireturn, 1, 0, 0, 0) :: k_186_12
def k_186_0 : List CE := (0, .iload_n 1, 1, 0, 0, 0) :: (1, .iconst (-1), 1, 0, 0, 0) :: (2, .iconst 5, 1, 0, 0, 0) :: (3, .invokestatic 98, 3, 170, 3003, 0) :: k_186_6
/-- PageInterpreterModel.setBox(IIIII)I -/
def k_187_58 : List CE := (58, .aload_n 0, 1, 0, 0, 0) :: (59, .getfield 7, 3, 10, 2, 0) :: (62, .sipush 1127, 3, 0, 0, 0) :: (65, .iconst 5, 1, 0, 0, 0) :: (66, .iload_n 1, 1, 0, 0, 0) :: (67, .imul, 1, 0, 0, 0) :: (68, .iadd, 1, 0, 0, 0) :: (69, .iaload, 1, 0, 0, 0) :: (70, .istore 6, 2, 0, 0, 0) :: (72, .aload_n 0, 1, 0, 0, 0) :: (73, .getfield 7, 3, 10, 2, 0) :: (76, .sipush 1127, 3, 0, 0, 0) :: (79, .iconst 5, 1, 0, 0, 0) :: (80, .iload_n 1, 1, 0, 0, 0) :: (81, .imul, 1, 0, 0, 0) :: (82, .iadd, 1, 0, 0, 0) :: (83, .iconst 1, 1, 0, 0, 0) :: (84, .iastore, 1, 0, 0, 0) :: (85, .aload_n 0, 1, 0, 0, 0) :: (86, .getfield 7, 3, 10, 2, 0) :: (89, .sipush 1127, 3, 0, 0, 0) :: (92, .iconst 5, 1, 0, 0, 0) :: (93, .iload_n 1, 1, 0, 0, 0) :: (94, .imul, 1, 0, 0, 0) :: (95, .iadd, 1, 0, 0, 0) :: (96, .iconst 1, 1, 0, 0, 0) :: (97, .iadd, 1, 0, 0, 0) :: (98, .iload_n 2, 1, 0, 0, 0) :: (99, .iastore, 1, 0, 0, 0) :: (100, .aload_n 0, 1, 0, 0, 0) :: (101, .getfield 7, 3, 10, 2, 0) :: (104, .sipush 1127, 3, 0, 0, 0) :: (107, .iconst 5, 1, 0, 0, 0) :: (108, .iload_n 1, 1, 0, 0, 0) :: (109, .imul, 1, 0, 0, 0) :: (110, .iadd, 1, 0, 0, 0) :: (111, .iconst 2, 1, 0, 0, 0) :: (112, .iadd, 1, 0, 0, 0) :: (113, .iload_n 3, 1, 0, 0, 0) :: (114, .iastore, 1, 0, 0, 0) :: (115, .aload_n 0, 1, 0, 0, 0) :: (116, .getfield 7, 3, 10, 2, 0) :: (119, .sipush 1127, 3, 0, 0, 0) :: (122, .iconst 5, 1, 0, 0, 0) :: (123, .iload_n 1, 1, 0, 0, 0) :: (124, .imul, 1, 0, 0, 0) :: (125, .iadd, 1, 0, 0, 0) :: (126, .iconst 3, 1, 0, 0, 0) :: (127, .iadd, 1, 0, 0, 0) :: (128, .iload 4, 2, 0, 0, 0) :: (130, .iastore, 1, 0, 0, 0) :: (131, .aload_n 0, 1, 0, 0, 0) :: (132, .getfield 7, 3, 10, 2, 0) :: (135, .sipush 1127, 3, 0, 0, 0) :: (138, .iconst 5, 1, 0, 0, 0) :: (139, .iload_n 1, 1, 0, 0, 0) :: (140, .imul, 1, 0, 0, 0) :: (141, .iadd, 1, 0, 0, 0) :: (142, .iconst 4, 1, 0, 0, 0) :: (143, .iadd, 1, 0, 0, 0) :: (144, .iload 5, 2, 0, 0, 0) :: (146, .iastore, 1, 0, 0, 0) :: (147, .iload 6, 2, 0, 0, 0) :: (149, .ireturn, 1, 0, 0, 0) :: []
def k_187_54 : List CE := (54, .aload_n 0, 1, 0, 0, 0) :: (55, .invokevirtual 218, 3, 185, 1001, 11) :: k_187_58
def k_187_51 : List CE := (51, .ldc 102, 2, 0, 0, (-10000001)) :: (53, .ireturn, 1, 0, 0, 0) :: k_187_54
def k_187_36 : List CE := (36, .ifCond .eq 15, 3, 0, 0, 0) :: (39, .iload 4, 2, 0, 0, 0) :: (41, .iload_n 2, 1, 0, 0, 0) :: (42, .if_icmp .le 9, 3, 0, 0, 0) :: (45, .iload 5, 2, 0, 0, 0) :: (47, .iload_n 3, 1, 0, 0, 0) :: (48, .if_icmp .gt 6, 3, 0, 0, 0) :: k_187_51
def k_187_28 : List CE := (28, .ifCond .eq 23, 3, 0, 0, 0) :: (31, .iload 5, 2, 0, 0, 0) :: (33, .invokestatic 222, 3, 188, 1001, 0) :: k_187_36
def k_187_20 : List CE := (20, .ifCond .eq 31, 3, 0, 0, 0) :: (23, .iload 4, 2, 0, 0, 0) :: (25, .invokestatic 222, 3, 188, 1001, 0) :: k_187_28
def k_187_13 : List CE := (13, .ifCond .eq 38, 3, 0, 0, 0) :: (16, .iload_n 3, 1, 0, 0, 0) :: (17, .invokestatic 222, 3, 188, 1001, 0) :: k_187_20
def k_187_6 : List CE := (6, .ifCond .eq 45, 3, 0, 0, 0) :: (9, .iload_n 2, 1, 0, 0, 0) :: (10, .invokestatic 222, 3, 188, 1001, 0) :: k_187_13
def k_187_0 : List CE := (0, .iload_n 1, 1, 0, 0, 0) :: (1, .iconst 0, 1, 0, 0, 0) :: (2, .iconst 5, 1, 0, 0, 0) :: (3, .invokestatic 98, 3, 170, 3003, 0) :: k_187_6
/-- PageInterpreterModel.isPlace(I)Z -/
def k_188_8 : List CE := (8, .ireturn, 1, 1, 0, 0) :: []
def k_188_0 : List CE := (0, .iload_n 0, 1, 0, 0, 0) :: (1, .bipush (-99), 2, 0, 0, 0) :: (3, .bipush 99, 2, 0, 0, 0) :: (5, .invokestatic 98, 3, 170, 3003, 0) :: k_188_8
/-- PageInterpreterModel.removeBox(I)I -/
def k_189_34 : List CE := (34, .aload_n 0, 1, 0, 0, 0) :: (35, .getfield 7, 3, 10, 2, 0) :: (38, .sipush 1127, 3, 0, 0, 0) :: (41, .iconst 5, 1, 0, 0, 0) :: (42, .iload_n 1, 1, 0, 0, 0) :: (43, .imul, 1, 0, 0, 0) :: (44, .iadd, 1, 0, 0, 0) :: (45, .iconst 0, 1, 0, 0, 0) :: (46, .iastore, 1, 0, 0, 0) :: (47, .iconst 1, 1, 0, 0, 0) :: (48, .ireturn, 1, 0, 0, 0) :: []
def k_189_30 : List CE := (30, .aload_n 0, 1, 0, 0, 0) :: (31, .invokevirtual 218, 3, 185, 1001, 11) :: k_189_34
def k_189_12 : List CE := (12, .aload_n 0, 1, 0, 0, 0) :: (13, .getfield 7, 3, 10, 2, 0) :: (16, .sipush 1127, 3, 0, 0, 0) :: (19, .iconst 5, 1, 0, 0, 0) :: (20, .iload_n 1, 1, 0, 0, 0) :: (21, .imul, 1, 0, 0, 0) :: (22, .iadd, 1, 0, 0, 0) :: (23, .iaload, 1, 0, 0, 0) :: (24, .ifCond .ne 6, 3, 0, 0, 0) :: (27, .ldc 225, 2, 0, 0, (-10000002)) :: (29, .ireturn, 1, 0, 0, 0) :: k_189_30
def k_189_6 : List CE := (6, .ifCond .ne 6, 3, 0, 0, 0) :: (9, .ldc 102, 2, 0, 0, (-10000001)) :: (11, .ireturn, 1, 0, 0, 0) :: k_189_12
def k_189_0 : List CE := (0, .iload_n 1, 1, 0, 0, 0) :: (1, .iconst 0, 1, 0, 0, 0) :: (2, .iconst 5, 1, 0, 0, 0) :: (3, .invokestatic 98, 3, 170, 3003, 0) :: k_189_6
/-- PageInterpreterModel.define(IIII)I -/
def k_190_73 : List CE := (73, .istore 6, 2, 0, 0, 0) :: (75, .aload_n 0, 1, 0, 0, 0) :: (76, .getfield 7, 3, 10, 2, 0) :: (79, .iload 5, 2, 0, 0, 0) :: (81, .bipush 100, 2, 0, 0, 0) :: (83, .iload_n 3, 1, 0, 0, 0) :: (84, .imul, 1, 0, 0, 0) :: (85, .iload 4, 2, 0, 0, 0) :: (87, .iadd, 1, 0, 0, 0) :: (88, .iastore, 1, 0, 0, 0) :: (89, .iload 6, 2, 0, 0, 0) :: (91, .ireturn, 1, 0, 0, 0) :: []
def k_190_72 : List CE := (72, .iconst 0, 1, 0, 0, 0) :: k_190_73
def k_190_44 : List CE := (44, .sipush 1157, 3, 0, 0, 0) :: (47, .bipush 8, 2, 0, 0, 0) :: (49, .iload_n 1, 1, 0, 0, 0) :: (50, .iconst 1, 1, 0, 0, 0) :: (51, .iadd, 1, 0, 0, 0) :: (52, .imul, 1, 0, 0, 0) :: (53, .iadd, 1, 0, 0, 0) :: (54, .iload_n 2, 1, 0, 0, 0) :: (55, .iadd, 1, 0, 0, 0) :: (56, .istore 5, 2, 0, 0, 0) :: (58, .aload_n 0, 1, 0, 0, 0) :: (59, .getfield 7, 3, 10, 2, 0) :: (62, .iload 5, 2, 0, 0, 0) :: (64, .iaload, 1, 0, 0, 0) :: (65, .ifCond .le 7, 3, 0, 0, 0) :: (68, .iconst 1, 1, 0, 0, 0) :: (69, .goto 4, 3, 0, 0, 0) :: k_190_72
def k_190_40 : List CE := (40, .aload_n 0, 1, 0, 0, 0) :: (41, .invokevirtual 218, 3, 185, 1001, 11) :: k_190_44
def k_190_37 : List CE := (37, .ldc 102, 2, 0, 0, (-10000001)) :: (39, .ireturn, 1, 0, 0, 0) :: k_190_40
def k_190_34 : List CE := (34, .ifCond .ne 6, 3, 0, 0, 0) :: k_190_37
def k_190_31 : List CE := (31, .invokestatic 98, 3, 170, 3003, 0) :: k_190_34
def k_190_30 : List CE := (30, .iconst 5, 1, 0, 0, 0) :: k_190_31
def k_190_14 : List CE := (14, .ifCond .eq 23, 3, 0, 0, 0) :: (17, .iload 4, 2, 0, 0, 0) :: (19, .iconst 0, 1, 0, 0, 0) :: (20, .iload_n 3, 1, 0, 0, 0) :: (21, .iconst 1, 1, 0, 0, 0) :: (22, .if_icmp .ne 8, 3, 0, 0, 0) :: (25, .bipush 15, 2, 0, 0, 0) :: (27, .goto 4, 3, 0, 0, 0) :: k_190_30
def k_190_5 : List CE := (5, .ifCond .eq 32, 3, 0, 0, 0) :: (8, .iload_n 3, 1, 0, 0, 0) :: (9, .iconst 1, 1, 0, 0, 0) :: (10, .iconst 2, 1, 0, 0, 0) :: (11, .invokestatic 98, 3, 170, 3003, 0) :: k_190_14
def k_190_0 : List CE := (0, .iload_n 1, 1, 0, 0, 0) :: (1, .iload_n 2, 1, 0, 0, 0) :: (2, .invokestatic 226, 3, 191, 2002, 0) :: k_190_5
/-- PageInterpreterModel.isName(II)Z -/
def k_191_24 : List CE := (24, .ireturn, 1, 1, 0, 0) :: []
def k_191_23 : List CE := (23, .iconst 0, 1, 0, 0, 0) :: k_191_24
def k_191_16 : List CE := (16, .ifCond .eq 7, 3, 0, 0, 0) :: (19, .iconst 1, 1, 0, 0, 0) :: (20, .goto 4, 3, 0, 0, 0) :: k_191_23
def k_191_6 : List CE := (6, .ifCond .eq 17, 3, 0, 0, 0) :: (9, .iload_n 1, 1, 0, 0, 0) :: (10, .iconst 0, 1, 0, 0, 0) :: (11, .bipush 7, 2, 0, 0, 0) :: (13, .invokestatic 98, 3, 170, 3003, 0) :: k_191_16
def k_191_0 : List CE := (0, .iload_n 0, 1, 0, 0, 0) :: (1, .iconst (-1), 1, 0, 0, 0) :: (2, .iconst 5, 1, 0, 0, 0) :: (3, .invokestatic 98, 3, 170, 3003, 0) :: k_191_6
/-- PageInterpreterModel.removeResource(II)I -/
def k_192_44 : List CE := (44, .aload_n 0, 1, 0, 0, 0) :: (45, .getfield 7, 3, 10, 2, 0) :: (48, .iload_n 3, 1, 0, 0, 0) :: (49, .iconst 0, 1, 0, 0, 0) :: (50, .iastore, 1, 0, 0, 0) :: (51, .iload 4, 2, 0, 0, 0) :: (53, .ireturn, 1, 0, 0, 0) :: []
def k_192_40 : List CE := (40, .aload_n 0, 1, 0, 0, 0) :: (41, .invokevirtual 218, 3, 185, 1001, 11) :: k_192_44
def k_192_11 : List CE := (11, .sipush 1157, 3, 0, 0, 0) :: (14, .bipush 8, 2, 0, 0, 0) :: (16, .iload_n 1, 1, 0, 0, 0) :: (17, .iconst 1, 1, 0, 0, 0) :: (18, .iadd, 1, 0, 0, 0) :: (19, .imul, 1, 0, 0, 0) :: (20, .iadd, 1, 0, 0, 0) :: (21, .iload_n 2, 1, 0, 0, 0) :: (22, .iadd, 1, 0, 0, 0) :: (23, .istore_n 3, 1, 0, 0, 0) :: (24, .aload_n 0, 1, 0, 0, 0) :: (25, .getfield 7, 3, 10, 2, 0) :: (28, .iload_n 3, 1, 0, 0, 0) :: (29, .iaload, 1, 0, 0, 0) :: (30, .istore 4, 2, 0, 0, 0) :: (32, .iload 4, 2, 0, 0, 0) :: (34, .ifCond .ne 6, 3, 0, 0, 0) :: (37, .ldc 225, 2, 0, 0, (-10000002)) :: (39, .ireturn, 1, 0, 0, 0) :: k_192_40
def k_192_5 : List CE := (5, .ifCond .ne 6, 3, 0, 0, 0) :: (8, .ldc 102, 2, 0, 0, (-10000001)) :: (10, .ireturn, 1, 0, 0, 0) :: k_192_11
def k_192_0 : List CE := (0, .iload_n 1, 1, 0, 0, 0) :: (1, .iload_n 2, 1, 0, 0, 0) :: (2, .invokestatic 226, 3, 191, 2002, 0) :: k_192_5
/-- PageInterpreterModel.resource(II)I -/
def k_193_39 : List CE := (39, .ireturn, 1, 0, 0, 0) :: []
def k_193_38 : List CE := (38, .iload_n 3, 1, 0, 0, 0) :: k_193_39
def k_193_11 : List CE := (11, .aload_n 0, 1, 0, 0, 0) :: (12, .getfield 7, 3, 10, 2, 0) :: (15, .sipush 1157, 3, 0, 0, 0) :: (18, .bipush 8, 2, 0, 0, 0) :: (20, .iload_n 1, 1, 0, 0, 0) :: (21, .iconst 1, 1, 0, 0, 0) :: (22, .iadd, 1, 0, 0, 0) :: (23, .imul, 1, 0, 0, 0) :: (24, .iadd, 1, 0, 0, 0) :: (25, .iload_n 2, 1, 0, 0, 0) :: (26, .iadd, 1, 0, 0, 0) :: (27, .iaload, 1, 0, 0, 0) :: (28, .istore_n 3, 1, 0, 0, 0) :: (29, .iload_n 3, 1, 0, 0, 0) :: (30, .ifCond .ne 8, 3, 0, 0, 0) :: (33, .ldc 221, 2, 0, 0, (-10000009)) :: (35, .goto 4, 3, 0, 0, 0) :: k_193_38
def k_193_5 : List CE := (5, .ifCond .ne 6, 3, 0, 0, 0) :: (8, .ldc 102, 2, 0, 0, (-10000001)) :: (10, .ireturn, 1, 0, 0, 0) :: k_193_11
def k_193_0 : List CE := (0, .iload_n 1, 1, 0, 0, 0) :: (1, .iload_n 2, 1, 0, 0, 0) :: (2, .invokestatic 226, 3, 191, 2002, 0) :: k_193_5
/-- PageInterpreterModel.setSize(II)I -/
def k_194_27 : List CE := (27, .aload_n 0, 1, 0, 0, 0) :: (28, .getfield 7, 3, 10, 2, 0) :: (31, .sipush 1213, 3, 0, 0, 0) :: (34, .iload_n 1, 1, 0, 0, 0) :: (35, .iastore, 1, 0, 0, 0) :: (36, .aload_n 0, 1, 0, 0, 0) :: (37, .getfield 7, 3, 10, 2, 0) :: (40, .sipush 1214, 3, 0, 0, 0) :: (43, .iload_n 2, 1, 0, 0, 0) :: (44, .iastore, 1, 0, 0, 0) :: (45, .iload_n 1, 1, 0, 0, 0) :: (46, .iload_n 2, 1, 0, 0, 0) :: (47, .imul, 1, 0, 0, 0) :: (48, .ireturn, 1, 0, 0, 0) :: []
def k_194_23 : List CE := (23, .aload_n 0, 1, 0, 0, 0) :: (24, .invokevirtual 218, 3, 185, 1001, 11) :: k_194_27
def k_194_20 : List CE := (20, .ldc 102, 2, 0, 0, (-10000001)) :: (22, .ireturn, 1, 0, 0, 0) :: k_194_23
def k_194_17 : List CE := (17, .ifCond .ne 6, 3, 0, 0, 0) :: k_194_20
def k_194_7 : List CE := (7, .ifCond .eq 13, 3, 0, 0, 0) :: (10, .iload_n 2, 1, 0, 0, 0) :: (11, .iconst 4, 1, 0, 0, 0) :: (12, .bipush 24, 2, 0, 0, 0) :: (14, .invokestatic 98, 3, 170, 3003, 0) :: k_194_17
def k_194_0 : List CE := (0, .iload_n 1, 1, 0, 0, 0) :: (1, .iconst 4, 1, 0, 0, 0) :: (2, .bipush 24, 2, 0, 0, 0) :: (4, .invokestatic 98, 3, 170, 3003, 0) :: k_194_7
/-- PageInterpreterModel.setBudget(I)I -/
def k_195_18 : List CE := (18, .aload_n 0, 1, 0, 0, 0) :: (19, .getfield 7, 3, 10, 2, 0) :: (22, .sipush 1215, 3, 0, 0, 0) :: (25, .iaload, 1, 0, 0, 0) :: (26, .istore_n 2, 1, 0, 0, 0) :: (27, .aload_n 0, 1, 0, 0, 0) :: (28, .getfield 7, 3, 10, 2, 0) :: (31, .sipush 1215, 3, 0, 0, 0) :: (34, .iload_n 1, 1, 0, 0, 0) :: (35, .iastore, 1, 0, 0, 0) :: (36, .iload_n 2, 1, 0, 0, 0) :: (37, .ireturn, 1, 0, 0, 0) :: []
def k_195_14 : List CE := (14, .aload_n 0, 1, 0, 0, 0) :: (15, .invokevirtual 218, 3, 185, 1001, 11) :: k_195_18
def k_195_8 : List CE := (8, .ifCond .ne 6, 3, 0, 0, 0) :: (11, .ldc 102, 2, 0, 0, (-10000001)) :: (13, .ireturn, 1, 0, 0, 0) :: k_195_14
def k_195_0 : List CE := (0, .iload_n 1, 1, 0, 0, 0) :: (1, .iconst 1, 1, 0, 0, 0) :: (2, .sipush 200, 3, 0, 0, 0) :: (5, .invokestatic 98, 3, 170, 3003, 0) :: k_195_8
/-- PageInterpreterModel.undo()I -/
def k_196_56 : List CE := (56, .aload_n 0, 1, 0, 0, 0) :: (57, .getfield 94, 3, 10, 0, 2) :: (60, .ireturn, 1, 0, 0, 0) :: []
def k_196_22 : List CE := (22, .iload_n 1, 1, 0, 0, 0) :: (23, .sipush 1216, 3, 0, 0, 0) :: (26, .if_icmp .ge 30, 3, 0, 0, 0) :: (29, .aload_n 0, 1, 0, 0, 0) :: (30, .getfield 7, 3, 10, 2, 0) :: (33, .iload_n 1, 1, 0, 0, 0) :: (34, .aload_n 0, 1, 0, 0, 0) :: (35, .getfield 13, 3, 10, 2, 1) :: (38, .sipush 1216, 3, 0, 0, 0) :: (41, .aload_n 0, 1, 0, 0, 0) :: (42, .getfield 94, 3, 10, 0, 2) :: (45, .imul, 1, 0, 0, 0) :: (46, .iload_n 1, 1, 0, 0, 0) :: (47, .iadd, 1, 0, 0, 0) :: (48, .iaload, 1, 0, 0, 0) :: (49, .iastore, 1, 0, 0, 0) :: (50, .iinc 1 1, 3, 0, 0, 0) :: (53, .goto (-31), 3, 0, 0, 0) :: k_196_56
def k_196_10 : List CE := (10, .aload_n 0, 1, 0, 0, 0) :: (11, .dup, 1, 0, 0, 0) :: (12, .getfield 94, 3, 10, 0, 2) :: (15, .iconst 1, 1, 0, 0, 0) :: (16, .isub, 1, 0, 0, 0) :: (17, .putfield 94, 3, 10, 0, 2) :: (20, .iconst 0, 1, 0, 0, 0) :: (21, .istore_n 1, 1, 0, 0, 0) :: k_196_22
def k_196_0 : List CE := (0, .aload_n 0, 1, 0, 0, 0) :: (1, .getfield 94, 3, 10, 0, 2) :: (4, .ifCond .ne 6, 3, 0, 0, 0) :: (7, .ldc 225, 2, 0, 0, (-10000002)) :: (9, .ireturn, 1, 0, 0, 0) :: k_196_10
/-- PageInterpreterModel.run()I -/
def k_197_268 : List CE := (268, .aload_n 0, 1, 0, 0, 0) :: (269, .getfield 405, 3, 10, 0, 46) :: (272, .ireturn, 1, 0, 0, 0) :: []
def k_197_263 : List CE := (263, .iadd, 1, 0, 0, 0) :: (264, .iastore, 1, 0, 0, 0) :: (265, .goto (-134), 3, 0, 0, 0) :: k_197_268
def k_197_262 : List CE := (262, .iconst 0, 1, 0, 0, 0) :: k_197_263
def k_197_243 : List CE := (243, .istore_n 1, 1, 0, 0, 0) :: (244, .aload_n 0, 1, 0, 0, 0) :: (245, .getfield 61, 3, 10, 2, 38) :: (248, .aload_n 0, 1, 0, 0, 0) :: (249, .getfield 297, 3, 10, 0, 36) :: (252, .dup2, 1, 0, 0, 0) :: (253, .iaload, 1, 0, 0, 0) :: (254, .iload_n 1, 1, 0, 0, 0) :: (255, .ifCond .eq 7, 3, 0, 0, 0) :: (258, .iconst 1, 1, 0, 0, 0) :: (259, .goto 4, 3, 0, 0, 0) :: k_197_262
def k_197_242 : List CE := (242, .iconst 0, 1, 0, 0, 0) :: k_197_243
def k_197_231 : List CE := (231, .aload_n 0, 1, 0, 0, 0) :: (232, .getfield 405, 3, 10, 0, 46) :: (235, .ifCond .ne 7, 3, 0, 0, 0) :: (238, .iconst 1, 1, 0, 0, 0) :: (239, .goto 4, 3, 0, 0, 0) :: k_197_242
def k_197_228 : List CE := (228, .invokevirtual 432, 3, 201, 2002, 11) :: k_197_231
def k_197_214 : List CE := (214, .aload_n 0, 1, 0, 0, 0) :: (215, .aload_n 0, 1, 0, 0, 0) :: (216, .aload_n 0, 1, 0, 0, 0) :: (217, .getfield 61, 3, 10, 2, 38) :: (220, .aload_n 0, 1, 0, 0, 0) :: (221, .getfield 297, 3, 10, 0, 36) :: (224, .iaload, 1, 0, 0, 0) :: (225, .invokevirtual 377, 3, 200, 2002, 11) :: k_197_228
def k_197_188 : List CE := (188, .aload_n 0, 1, 0, 0, 0) :: (189, .dup, 1, 0, 0, 0) :: (190, .getfield 297, 3, 10, 0, 36) :: (193, .iconst 1, 1, 0, 0, 0) :: (194, .isub, 1, 0, 0, 0) :: (195, .putfield 297, 3, 10, 0, 36) :: (198, .aload_n 0, 1, 0, 0, 0) :: (199, .getfield 61, 3, 10, 2, 38) :: (202, .aload_n 0, 1, 0, 0, 0) :: (203, .getfield 297, 3, 10, 0, 36) :: (206, .dup2, 1, 0, 0, 0) :: (207, .iaload, 1, 0, 0, 0) :: (208, .iconst 1, 1, 0, 0, 0) :: (209, .iadd, 1, 0, 0, 0) :: (210, .iastore, 1, 0, 0, 0) :: (211, .goto (-80), 3, 0, 0, 0) :: k_197_214
def k_197_179 : List CE := (179, .istore_n 1, 1, 0, 0, 0) :: (180, .iload_n 1, 1, 0, 0, 0) :: (181, .ifCond .eq (-50), 3, 0, 0, 0) :: (184, .aload_n 0, 1, 0, 0, 0) :: (185, .invokevirtual 390, 3, 199, 1001, 11) :: k_197_188
def k_197_178 : List CE := (178, .iconst 0, 1, 0, 0, 0) :: k_197_179
def k_197_131 : List CE := (131, .iload_n 1, 1, 0, 0, 0) :: (132, .ifCond .eq 136, 3, 0, 0, 0) :: (135, .aload_n 0, 1, 0, 0, 0) :: (136, .getfield 61, 3, 10, 2, 38) :: (139, .aload_n 0, 1, 0, 0, 0) :: (140, .getfield 297, 3, 10, 0, 36) :: (143, .iaload, 1, 0, 0, 0) :: (144, .aload_n 0, 1, 0, 0, 0) :: (145, .getfield 7, 3, 10, 2, 0) :: (148, .iconst 0, 1, 0, 0, 0) :: (149, .sipush 161, 3, 0, 0, 0) :: (152, .aload_n 0, 1, 0, 0, 0) :: (153, .getfield 58, 3, 10, 2, 37) :: (156, .aload_n 0, 1, 0, 0, 0) :: (157, .getfield 297, 3, 10, 0, 36) :: (160, .iaload, 1, 0, 0, 0) :: (161, .imul, 1, 0, 0, 0) :: (162, .iadd, 1, 0, 0, 0) :: (163, .iaload, 1, 0, 0, 0) :: (164, .if_icmp .ne 50, 3, 0, 0, 0) :: (167, .aload_n 0, 1, 0, 0, 0) :: (168, .getfield 297, 3, 10, 0, 36) :: (171, .ifCond .le 7, 3, 0, 0, 0) :: (174, .iconst 1, 1, 0, 0, 0) :: (175, .goto 4, 3, 0, 0, 0) :: k_197_178
def k_197_96 : List CE := (96, .aload_n 0, 1, 0, 0, 0) :: (97, .iconst 0, 1, 0, 0, 0) :: (98, .putfield 297, 3, 10, 0, 36) :: (101, .aload_n 0, 1, 0, 0, 0) :: (102, .getfield 58, 3, 10, 2, 37) :: (105, .iconst 0, 1, 0, 0, 0) :: (106, .iconst 0, 1, 0, 0, 0) :: (107, .iastore, 1, 0, 0, 0) :: (108, .aload_n 0, 1, 0, 0, 0) :: (109, .getfield 61, 3, 10, 2, 38) :: (112, .iconst 0, 1, 0, 0, 0) :: (113, .iconst 0, 1, 0, 0, 0) :: (114, .iastore, 1, 0, 0, 0) :: (115, .aload_n 0, 1, 0, 0, 0) :: (116, .getfield 64, 3, 10, 2, 39) :: (119, .iconst 0, 1, 0, 0, 0) :: (120, .iconst 0, 1, 0, 0, 0) :: (121, .iastore, 1, 0, 0, 0) :: (122, .aload_n 0, 1, 0, 0, 0) :: (123, .getfield 73, 3, 10, 2, 42) :: (126, .iconst 0, 1, 0, 0, 0) :: (127, .iconst 0, 1, 0, 0, 0) :: (128, .iastore, 1, 0, 0, 0) :: (129, .iconst 1, 1, 0, 0, 0) :: (130, .istore_n 1, 1, 0, 0, 0) :: k_197_131
def k_197_89 : List CE := (89, .iastore, 1, 0, 0, 0) :: (90, .iinc 1 1, 3, 0, 0, 0) :: (93, .goto (-40), 3, 0, 0, 0) :: k_197_96
def k_197_88 : List CE := (88, .iconst 0, 1, 0, 0, 0) :: k_197_89
def k_197_84 : List CE := (84, .iconst 1, 1, 0, 0, 0) :: (85, .goto 4, 3, 0, 0, 0) :: k_197_88
def k_197_81 : List CE := (81, .ifCond .eq 7, 3, 0, 0, 0) :: k_197_84
def k_197_53 : List CE := (53, .iload_n 1, 1, 0, 0, 0) :: (54, .bipush 20, 2, 0, 0, 0) :: (56, .if_icmp .ge 40, 3, 0, 0, 0) :: (59, .aload_n 0, 1, 0, 0, 0) :: (60, .getfield 25, 3, 10, 2, 17) :: (63, .iload_n 1, 1, 0, 0, 0) :: (64, .iload_n 1, 1, 0, 0, 0) :: (65, .ifCond .eq 19, 3, 0, 0, 0) :: (68, .iload_n 1, 1, 0, 0, 0) :: (69, .iconst 3, 1, 0, 0, 0) :: (70, .if_icmp .eq 14, 3, 0, 0, 0) :: (73, .iload_n 1, 1, 0, 0, 0) :: (74, .bipush 6, 2, 0, 0, 0) :: (76, .bipush 12, 2, 0, 0, 0) :: (78, .invokestatic 98, 3, 170, 3003, 0) :: k_197_81
def k_197_51 : List CE := (51, .iconst 0, 1, 0, 0, 0) :: (52, .istore_n 1, 1, 0, 0, 0) :: k_197_53
def k_197_12 : List CE := (12, .aload_n 0, 1, 0, 0, 0) :: (13, .iconst 1, 1, 0, 0, 0) :: (14, .putfield 429, 3, 10, 3, 45) :: (17, .aload_n 0, 1, 0, 0, 0) :: (18, .iconst 0, 1, 0, 0, 0) :: (19, .putfield 405, 3, 10, 0, 46) :: (22, .aload_n 0, 1, 0, 0, 0) :: (23, .iconst 0, 1, 0, 0, 0) :: (24, .putfield 318, 3, 10, 0, 49) :: (27, .aload_n 0, 1, 0, 0, 0) :: (28, .iconst 0, 1, 0, 0, 0) :: (29, .putfield 374, 3, 10, 0, 50) :: (32, .aload_n 0, 1, 0, 0, 0) :: (33, .iconst 0, 1, 0, 0, 0) :: (34, .putfield 291, 3, 10, 0, 35) :: (37, .aload_n 0, 1, 0, 0, 0) :: (38, .iconst 0, 1, 0, 0, 0) :: (39, .putfield 278, 3, 10, 0, 33) :: (42, .aload_n 0, 1, 0, 0, 0) :: (43, .iconst 0, 1, 0, 0, 0) :: (44, .putfield 247, 3, 10, 0, 19) :: (47, .aload_n 0, 1, 0, 0, 0) :: (48, .invokevirtual 365, 3, 198, 1001, 11) :: k_197_51
def k_197_0 : List CE := (0, .aload_n 0, 1, 0, 0, 0) :: (1, .getfield 7, 3, 10, 2, 0) :: (4, .iconst 0, 1, 0, 0, 0) :: (5, .iaload, 1, 0, 0, 0) :: (6, .ifCond .ge 6, 3, 0, 0, 0) :: (9, .ldc 225, 2, 0, 0, (-10000002)) :: (11, .ireturn, 1, 0, 0, 0) :: k_197_12
