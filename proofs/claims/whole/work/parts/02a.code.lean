/-- PageInterpreterLaw.law([I)Z -/
def k_0_863 : List CE := (863, .iconst 1, 1, 0, 0, 0) :: (864, .ireturn, 1, 1, 0, 0) :: []
def k_0_857 : List CE := (857, .iinc 3 6, 3, 0, 0, 0) :: (860, .goto (-842), 3, 0, 0, 0) :: k_0_863
def k_0_851 : List CE := (851, .lcmp, 1, 0, 0, 0) :: (852, .ifCond .eq 5, 3, 0, 0, 0) :: (855, .iconst 0, 1, 0, 0, 0) :: (856, .ireturn, 1, 1, 0, 0) :: k_0_857
def k_0_842 : List CE := (842, .aload_n 2, 1, 0, 0, 0) :: (843, .aload_n 0, 1, 0, 0, 0) :: (844, .iload_n 3, 1, 0, 0, 0) :: (845, .iconst 1, 1, 0, 0, 0) :: (846, .iadd, 1, 0, 0, 0) :: (847, .iaload, 1, 0, 0, 0) :: (848, .invokevirtual 115, 3, 259, 2, 11) :: k_0_851
def k_0_833 : List CE := (833, .aload_n 1, 1, 0, 0, 0) :: (834, .aload_n 0, 1, 0, 0, 0) :: (835, .iload_n 3, 1, 0, 0, 0) :: (836, .iconst 1, 1, 0, 0, 0) :: (837, .iadd, 1, 0, 0, 0) :: (838, .iaload, 1, 0, 0, 0) :: (839, .invokevirtual 111, 3, 165, 2, 1) :: k_0_842
def k_0_828 : List CE := (828, .if_icmp .eq 29, 3, 0, 0, 0) :: (831, .iconst 0, 1, 0, 0, 0) :: (832, .ireturn, 1, 1, 0, 0) :: k_0_833
def k_0_814 : List CE := (814, .aload_n 2, 1, 0, 0, 0) :: (815, .aload_n 0, 1, 0, 0, 0) :: (816, .iload_n 3, 1, 0, 0, 0) :: (817, .iconst 1, 1, 0, 0, 0) :: (818, .iadd, 1, 0, 0, 0) :: (819, .iaload, 1, 0, 0, 0) :: (820, .aload_n 0, 1, 0, 0, 0) :: (821, .iload_n 3, 1, 0, 0, 0) :: (822, .iconst 2, 1, 0, 0, 0) :: (823, .iadd, 1, 0, 0, 0) :: (824, .iaload, 1, 0, 0, 0) :: (825, .invokevirtual 110, 3, 258, 3, 11) :: k_0_828
def k_0_800 : List CE := (800, .aload_n 1, 1, 0, 0, 0) :: (801, .aload_n 0, 1, 0, 0, 0) :: (802, .iload_n 3, 1, 0, 0, 0) :: (803, .iconst 1, 1, 0, 0, 0) :: (804, .iadd, 1, 0, 0, 0) :: (805, .iaload, 1, 0, 0, 0) :: (806, .aload_n 0, 1, 0, 0, 0) :: (807, .iload_n 3, 1, 0, 0, 0) :: (808, .iconst 2, 1, 0, 0, 0) :: (809, .iadd, 1, 0, 0, 0) :: (810, .iaload, 1, 0, 0, 0) :: (811, .invokevirtual 107, 3, 163, 3, 1) :: k_0_814
def k_0_795 : List CE := (795, .if_icmp .eq 62, 3, 0, 0, 0) :: (798, .iconst 0, 1, 0, 0, 0) :: (799, .ireturn, 1, 1, 0, 0) :: k_0_800
def k_0_776 : List CE := (776, .aload_n 2, 1, 0, 0, 0) :: (777, .aload_n 0, 1, 0, 0, 0) :: (778, .iload_n 3, 1, 0, 0, 0) :: (779, .iconst 1, 1, 0, 0, 0) :: (780, .iadd, 1, 0, 0, 0) :: (781, .iaload, 1, 0, 0, 0) :: (782, .aload_n 0, 1, 0, 0, 0) :: (783, .iload_n 3, 1, 0, 0, 0) :: (784, .iconst 2, 1, 0, 0, 0) :: (785, .iadd, 1, 0, 0, 0) :: (786, .iaload, 1, 0, 0, 0) :: (787, .aload_n 0, 1, 0, 0, 0) :: (788, .iload_n 3, 1, 0, 0, 0) :: (789, .iconst 3, 1, 0, 0, 0) :: (790, .iadd, 1, 0, 0, 0) :: (791, .iaload, 1, 0, 0, 0) :: (792, .invokevirtual 106, 3, 257, 4, 11) :: k_0_795
def k_0_757 : List CE := (757, .aload_n 1, 1, 0, 0, 0) :: (758, .aload_n 0, 1, 0, 0, 0) :: (759, .iload_n 3, 1, 0, 0, 0) :: (760, .iconst 1, 1, 0, 0, 0) :: (761, .iadd, 1, 0, 0, 0) :: (762, .iaload, 1, 0, 0, 0) :: (763, .aload_n 0, 1, 0, 0, 0) :: (764, .iload_n 3, 1, 0, 0, 0) :: (765, .iconst 2, 1, 0, 0, 0) :: (766, .iadd, 1, 0, 0, 0) :: (767, .iaload, 1, 0, 0, 0) :: (768, .aload_n 0, 1, 0, 0, 0) :: (769, .iload_n 3, 1, 0, 0, 0) :: (770, .iconst 3, 1, 0, 0, 0) :: (771, .iadd, 1, 0, 0, 0) :: (772, .iaload, 1, 0, 0, 0) :: (773, .invokevirtual 102, 3, 161, 4, 1) :: k_0_776
def k_0_752 : List CE := (752, .if_icmp .eq 105, 3, 0, 0, 0) :: (755, .iconst 0, 1, 0, 0, 0) :: (756, .ireturn, 1, 1, 0, 0) :: k_0_757
def k_0_738 : List CE := (738, .aload_n 2, 1, 0, 0, 0) :: (739, .aload_n 0, 1, 0, 0, 0) :: (740, .iload_n 3, 1, 0, 0, 0) :: (741, .iconst 1, 1, 0, 0, 0) :: (742, .iadd, 1, 0, 0, 0) :: (743, .iaload, 1, 0, 0, 0) :: (744, .aload_n 0, 1, 0, 0, 0) :: (745, .iload_n 3, 1, 0, 0, 0) :: (746, .iconst 2, 1, 0, 0, 0) :: (747, .iadd, 1, 0, 0, 0) :: (748, .iaload, 1, 0, 0, 0) :: (749, .invokevirtual 101, 3, 253, 3, 11) :: k_0_752
def k_0_724 : List CE := (724, .aload_n 1, 1, 0, 0, 0) :: (725, .aload_n 0, 1, 0, 0, 0) :: (726, .iload_n 3, 1, 0, 0, 0) :: (727, .iconst 1, 1, 0, 0, 0) :: (728, .iadd, 1, 0, 0, 0) :: (729, .iaload, 1, 0, 0, 0) :: (730, .aload_n 0, 1, 0, 0, 0) :: (731, .iload_n 3, 1, 0, 0, 0) :: (732, .iconst 2, 1, 0, 0, 0) :: (733, .iadd, 1, 0, 0, 0) :: (734, .iaload, 1, 0, 0, 0) :: (735, .invokevirtual 98, 3, 154, 3, 1) :: k_0_738
def k_0_719 : List CE := (719, .if_icmp .eq 138, 3, 0, 0, 0) :: (722, .iconst 0, 1, 0, 0, 0) :: (723, .ireturn, 1, 1, 0, 0) :: k_0_724
def k_0_705 : List CE := (705, .aload_n 2, 1, 0, 0, 0) :: (706, .aload_n 0, 1, 0, 0, 0) :: (707, .iload_n 3, 1, 0, 0, 0) :: (708, .iconst 1, 1, 0, 0, 0) :: (709, .iadd, 1, 0, 0, 0) :: (710, .iaload, 1, 0, 0, 0) :: (711, .aload_n 0, 1, 0, 0, 0) :: (712, .iload_n 3, 1, 0, 0, 0) :: (713, .iconst 2, 1, 0, 0, 0) :: (714, .iadd, 1, 0, 0, 0) :: (715, .iaload, 1, 0, 0, 0) :: (716, .invokevirtual 97, 3, 252, 3, 11) :: k_0_719
def k_0_691 : List CE := (691, .aload_n 1, 1, 0, 0, 0) :: (692, .aload_n 0, 1, 0, 0, 0) :: (693, .iload_n 3, 1, 0, 0, 0) :: (694, .iconst 1, 1, 0, 0, 0) :: (695, .iadd, 1, 0, 0, 0) :: (696, .iaload, 1, 0, 0, 0) :: (697, .aload_n 0, 1, 0, 0, 0) :: (698, .iload_n 3, 1, 0, 0, 0) :: (699, .iconst 2, 1, 0, 0, 0) :: (700, .iadd, 1, 0, 0, 0) :: (701, .iaload, 1, 0, 0, 0) :: (702, .invokevirtual 94, 3, 153, 3, 1) :: k_0_705
def k_0_686 : List CE := (686, .if_icmp .eq 171, 3, 0, 0, 0) :: (689, .iconst 0, 1, 0, 0, 0) :: (690, .ireturn, 1, 1, 0, 0) :: k_0_691
def k_0_677 : List CE := (677, .aload_n 2, 1, 0, 0, 0) :: (678, .aload_n 0, 1, 0, 0, 0) :: (679, .iload_n 3, 1, 0, 0, 0) :: (680, .iconst 1, 1, 0, 0, 0) :: (681, .iadd, 1, 0, 0, 0) :: (682, .iaload, 1, 0, 0, 0) :: (683, .invokevirtual 93, 3, 251, 2, 11) :: k_0_686
def k_0_668 : List CE := (668, .aload_n 1, 1, 0, 0, 0) :: (669, .aload_n 0, 1, 0, 0, 0) :: (670, .iload_n 3, 1, 0, 0, 0) :: (671, .iconst 1, 1, 0, 0, 0) :: (672, .iadd, 1, 0, 0, 0) :: (673, .iaload, 1, 0, 0, 0) :: (674, .invokevirtual 90, 3, 151, 2, 1) :: k_0_677
def k_0_663 : List CE := (663, .if_icmp .eq 194, 3, 0, 0, 0) :: (666, .iconst 0, 1, 0, 0, 0) :: (667, .ireturn, 1, 1, 0, 0) :: k_0_668
def k_0_649 : List CE := (649, .aload_n 2, 1, 0, 0, 0) :: (650, .aload_n 0, 1, 0, 0, 0) :: (651, .iload_n 3, 1, 0, 0, 0) :: (652, .iconst 1, 1, 0, 0, 0) :: (653, .iadd, 1, 0, 0, 0) :: (654, .iaload, 1, 0, 0, 0) :: (655, .aload_n 0, 1, 0, 0, 0) :: (656, .iload_n 3, 1, 0, 0, 0) :: (657, .iconst 2, 1, 0, 0, 0) :: (658, .iadd, 1, 0, 0, 0) :: (659, .iaload, 1, 0, 0, 0) :: (660, .invokevirtual 89, 3, 244, 3, 11) :: k_0_663
def k_0_635 : List CE := (635, .aload_n 1, 1, 0, 0, 0) :: (636, .aload_n 0, 1, 0, 0, 0) :: (637, .iload_n 3, 1, 0, 0, 0) :: (638, .iconst 1, 1, 0, 0, 0) :: (639, .iadd, 1, 0, 0, 0) :: (640, .iaload, 1, 0, 0, 0) :: (641, .aload_n 0, 1, 0, 0, 0) :: (642, .iload_n 3, 1, 0, 0, 0) :: (643, .iconst 2, 1, 0, 0, 0) :: (644, .iadd, 1, 0, 0, 0) :: (645, .iaload, 1, 0, 0, 0) :: (646, .invokevirtual 86, 3, 140, 3, 1) :: k_0_649
def k_0_630 : List CE := (630, .if_icmp .eq 227, 3, 0, 0, 0) :: (633, .iconst 0, 1, 0, 0, 0) :: (634, .ireturn, 1, 1, 0, 0) :: k_0_635
def k_0_616 : List CE := (616, .aload_n 2, 1, 0, 0, 0) :: (617, .aload_n 0, 1, 0, 0, 0) :: (618, .iload_n 3, 1, 0, 0, 0) :: (619, .iconst 1, 1, 0, 0, 0) :: (620, .iadd, 1, 0, 0, 0) :: (621, .iaload, 1, 0, 0, 0) :: (622, .aload_n 0, 1, 0, 0, 0) :: (623, .iload_n 3, 1, 0, 0, 0) :: (624, .iconst 2, 1, 0, 0, 0) :: (625, .iadd, 1, 0, 0, 0) :: (626, .iaload, 1, 0, 0, 0) :: (627, .invokevirtual 85, 3, 243, 3, 11) :: k_0_630
def k_0_602 : List CE := (602, .aload_n 1, 1, 0, 0, 0) :: (603, .aload_n 0, 1, 0, 0, 0) :: (604, .iload_n 3, 1, 0, 0, 0) :: (605, .iconst 1, 1, 0, 0, 0) :: (606, .iadd, 1, 0, 0, 0) :: (607, .iaload, 1, 0, 0, 0) :: (608, .aload_n 0, 1, 0, 0, 0) :: (609, .iload_n 3, 1, 0, 0, 0) :: (610, .iconst 2, 1, 0, 0, 0) :: (611, .iadd, 1, 0, 0, 0) :: (612, .iaload, 1, 0, 0, 0) :: (613, .invokevirtual 82, 3, 138, 3, 1) :: k_0_616
def k_0_597 : List CE := (597, .if_icmp .eq 260, 3, 0, 0, 0) :: (600, .iconst 0, 1, 0, 0, 0) :: (601, .ireturn, 1, 1, 0, 0) :: k_0_602
def k_0_583 : List CE := (583, .aload_n 2, 1, 0, 0, 0) :: (584, .aload_n 0, 1, 0, 0, 0) :: (585, .iload_n 3, 1, 0, 0, 0) :: (586, .iconst 1, 1, 0, 0, 0) :: (587, .iadd, 1, 0, 0, 0) :: (588, .iaload, 1, 0, 0, 0) :: (589, .aload_n 0, 1, 0, 0, 0) :: (590, .iload_n 3, 1, 0, 0, 0) :: (591, .iconst 2, 1, 0, 0, 0) :: (592, .iadd, 1, 0, 0, 0) :: (593, .iaload, 1, 0, 0, 0) :: (594, .invokevirtual 81, 3, 242, 3, 11) :: k_0_597
def k_0_569 : List CE := (569, .aload_n 1, 1, 0, 0, 0) :: (570, .aload_n 0, 1, 0, 0, 0) :: (571, .iload_n 3, 1, 0, 0, 0) :: (572, .iconst 1, 1, 0, 0, 0) :: (573, .iadd, 1, 0, 0, 0) :: (574, .iaload, 1, 0, 0, 0) :: (575, .aload_n 0, 1, 0, 0, 0) :: (576, .iload_n 3, 1, 0, 0, 0) :: (577, .iconst 2, 1, 0, 0, 0) :: (578, .iadd, 1, 0, 0, 0) :: (579, .iaload, 1, 0, 0, 0) :: (580, .invokevirtual 78, 3, 136, 3, 1) :: k_0_583
def k_0_564 : List CE := (564, .if_icmp .eq 293, 3, 0, 0, 0) :: (567, .iconst 0, 1, 0, 0, 0) :: (568, .ireturn, 1, 1, 0, 0) :: k_0_569
def k_0_550 : List CE := (550, .aload_n 2, 1, 0, 0, 0) :: (551, .aload_n 0, 1, 0, 0, 0) :: (552, .iload_n 3, 1, 0, 0, 0) :: (553, .iconst 1, 1, 0, 0, 0) :: (554, .iadd, 1, 0, 0, 0) :: (555, .iaload, 1, 0, 0, 0) :: (556, .aload_n 0, 1, 0, 0, 0) :: (557, .iload_n 3, 1, 0, 0, 0) :: (558, .iconst 2, 1, 0, 0, 0) :: (559, .iadd, 1, 0, 0, 0) :: (560, .iaload, 1, 0, 0, 0) :: (561, .invokevirtual 77, 3, 241, 3, 11) :: k_0_564
def k_0_536 : List CE := (536, .aload_n 1, 1, 0, 0, 0) :: (537, .aload_n 0, 1, 0, 0, 0) :: (538, .iload_n 3, 1, 0, 0, 0) :: (539, .iconst 1, 1, 0, 0, 0) :: (540, .iadd, 1, 0, 0, 0) :: (541, .iaload, 1, 0, 0, 0) :: (542, .aload_n 0, 1, 0, 0, 0) :: (543, .iload_n 3, 1, 0, 0, 0) :: (544, .iconst 2, 1, 0, 0, 0) :: (545, .iadd, 1, 0, 0, 0) :: (546, .iaload, 1, 0, 0, 0) :: (547, .invokevirtual 74, 3, 133, 3, 1) :: k_0_550
def k_0_531 : List CE := (531, .if_icmp .eq 326, 3, 0, 0, 0) :: (534, .iconst 0, 1, 0, 0, 0) :: (535, .ireturn, 1, 1, 0, 0) :: k_0_536
def k_0_522 : List CE := (522, .aload_n 2, 1, 0, 0, 0) :: (523, .aload_n 0, 1, 0, 0, 0) :: (524, .iload_n 3, 1, 0, 0, 0) :: (525, .iconst 1, 1, 0, 0, 0) :: (526, .iadd, 1, 0, 0, 0) :: (527, .iaload, 1, 0, 0, 0) :: (528, .invokevirtual 73, 3, 240, 2, 11) :: k_0_531
def k_0_513 : List CE := (513, .aload_n 1, 1, 0, 0, 0) :: (514, .aload_n 0, 1, 0, 0, 0) :: (515, .iload_n 3, 1, 0, 0, 0) :: (516, .iconst 1, 1, 0, 0, 0) :: (517, .iadd, 1, 0, 0, 0) :: (518, .iaload, 1, 0, 0, 0) :: (519, .invokevirtual 70, 3, 131, 2, 1) :: k_0_522
def k_0_508 : List CE := (508, .if_icmp .eq 349, 3, 0, 0, 0) :: (511, .iconst 0, 1, 0, 0, 0) :: (512, .ireturn, 1, 1, 0, 0) :: k_0_513
def k_0_504 : List CE := (504, .aload_n 2, 1, 0, 0, 0) :: (505, .invokevirtual 69, 3, 197, 1, 11) :: k_0_508
def k_0_500 : List CE := (500, .aload_n 1, 1, 0, 0, 0) :: (501, .invokevirtual 66, 3, 72, 1, 1) :: k_0_504
def k_0_495 : List CE := (495, .if_icmp .eq 362, 3, 0, 0, 0) :: (498, .iconst 0, 1, 0, 0, 0) :: (499, .ireturn, 1, 1, 0, 0) :: k_0_500
def k_0_491 : List CE := (491, .aload_n 2, 1, 0, 0, 0) :: (492, .invokevirtual 65, 3, 196, 1, 11) :: k_0_495
def k_0_487 : List CE := (487, .aload_n 1, 1, 0, 0, 0) :: (488, .invokevirtual 62, 3, 71, 1, 1) :: k_0_491
def k_0_482 : List CE := (482, .if_icmp .eq 375, 3, 0, 0, 0) :: (485, .iconst 0, 1, 0, 0, 0) :: (486, .ireturn, 1, 1, 0, 0) :: k_0_487
def k_0_473 : List CE := (473, .aload_n 2, 1, 0, 0, 0) :: (474, .aload_n 0, 1, 0, 0, 0) :: (475, .iload_n 3, 1, 0, 0, 0) :: (476, .iconst 1, 1, 0, 0, 0) :: (477, .iadd, 1, 0, 0, 0) :: (478, .iaload, 1, 0, 0, 0) :: (479, .invokevirtual 61, 3, 195, 2, 11) :: k_0_482
def k_0_464 : List CE := (464, .aload_n 1, 1, 0, 0, 0) :: (465, .aload_n 0, 1, 0, 0, 0) :: (466, .iload_n 3, 1, 0, 0, 0) :: (467, .iconst 1, 1, 0, 0, 0) :: (468, .iadd, 1, 0, 0, 0) :: (469, .iaload, 1, 0, 0, 0) :: (470, .invokevirtual 58, 3, 70, 2, 1) :: k_0_473
def k_0_459 : List CE := (459, .if_icmp .eq 398, 3, 0, 0, 0) :: (462, .iconst 0, 1, 0, 0, 0) :: (463, .ireturn, 1, 1, 0, 0) :: k_0_464
def k_0_445 : List CE := (445, .aload_n 2, 1, 0, 0, 0) :: (446, .aload_n 0, 1, 0, 0, 0) :: (447, .iload_n 3, 1, 0, 0, 0) :: (448, .iconst 1, 1, 0, 0, 0) :: (449, .iadd, 1, 0, 0, 0) :: (450, .iaload, 1, 0, 0, 0) :: (451, .aload_n 0, 1, 0, 0, 0) :: (452, .iload_n 3, 1, 0, 0, 0) :: (453, .iconst 2, 1, 0, 0, 0) :: (454, .iadd, 1, 0, 0, 0) :: (455, .iaload, 1, 0, 0, 0) :: (456, .invokevirtual 57, 3, 194, 3, 11) :: k_0_459
def k_0_431 : List CE := (431, .aload_n 1, 1, 0, 0, 0) :: (432, .aload_n 0, 1, 0, 0, 0) :: (433, .iload_n 3, 1, 0, 0, 0) :: (434, .iconst 1, 1, 0, 0, 0) :: (435, .iadd, 1, 0, 0, 0) :: (436, .iaload, 1, 0, 0, 0) :: (437, .aload_n 0, 1, 0, 0, 0) :: (438, .iload_n 3, 1, 0, 0, 0) :: (439, .iconst 2, 1, 0, 0, 0) :: (440, .iadd, 1, 0, 0, 0) :: (441, .iaload, 1, 0, 0, 0) :: (442, .invokevirtual 54, 3, 69, 3, 1) :: k_0_445
def k_0_426 : List CE := (426, .if_icmp .eq 431, 3, 0, 0, 0) :: (429, .iconst 0, 1, 0, 0, 0) :: (430, .ireturn, 1, 1, 0, 0) :: k_0_431
def k_0_412 : List CE := (412, .aload_n 2, 1, 0, 0, 0) :: (413, .aload_n 0, 1, 0, 0, 0) :: (414, .iload_n 3, 1, 0, 0, 0) :: (415, .iconst 1, 1, 0, 0, 0) :: (416, .iadd, 1, 0, 0, 0) :: (417, .iaload, 1, 0, 0, 0) :: (418, .aload_n 0, 1, 0, 0, 0) :: (419, .iload_n 3, 1, 0, 0, 0) :: (420, .iconst 2, 1, 0, 0, 0) :: (421, .iadd, 1, 0, 0, 0) :: (422, .iaload, 1, 0, 0, 0) :: (423, .invokevirtual 53, 3, 193, 3, 11) :: k_0_426
def k_0_398 : List CE := (398, .aload_n 1, 1, 0, 0, 0) :: (399, .aload_n 0, 1, 0, 0, 0) :: (400, .iload_n 3, 1, 0, 0, 0) :: (401, .iconst 1, 1, 0, 0, 0) :: (402, .iadd, 1, 0, 0, 0) :: (403, .iaload, 1, 0, 0, 0) :: (404, .aload_n 0, 1, 0, 0, 0) :: (405, .iload_n 3, 1, 0, 0, 0) :: (406, .iconst 2, 1, 0, 0, 0) :: (407, .iadd, 1, 0, 0, 0) :: (408, .iaload, 1, 0, 0, 0) :: (409, .invokevirtual 50, 3, 68, 3, 1) :: k_0_412
def k_0_393 : List CE := (393, .if_icmp .eq 464, 3, 0, 0, 0) :: (396, .iconst 0, 1, 0, 0, 0) :: (397, .ireturn, 1, 1, 0, 0) :: k_0_398
def k_0_379 : List CE := (379, .aload_n 2, 1, 0, 0, 0) :: (380, .aload_n 0, 1, 0, 0, 0) :: (381, .iload_n 3, 1, 0, 0, 0) :: (382, .iconst 1, 1, 0, 0, 0) :: (383, .iadd, 1, 0, 0, 0) :: (384, .iaload, 1, 0, 0, 0) :: (385, .aload_n 0, 1, 0, 0, 0) :: (386, .iload_n 3, 1, 0, 0, 0) :: (387, .iconst 2, 1, 0, 0, 0) :: (388, .iadd, 1, 0, 0, 0) :: (389, .iaload, 1, 0, 0, 0) :: (390, .invokevirtual 49, 3, 192, 3, 11) :: k_0_393
def k_0_365 : List CE := (365, .aload_n 1, 1, 0, 0, 0) :: (366, .aload_n 0, 1, 0, 0, 0) :: (367, .iload_n 3, 1, 0, 0, 0) :: (368, .iconst 1, 1, 0, 0, 0) :: (369, .iadd, 1, 0, 0, 0) :: (370, .iaload, 1, 0, 0, 0) :: (371, .aload_n 0, 1, 0, 0, 0) :: (372, .iload_n 3, 1, 0, 0, 0) :: (373, .iconst 2, 1, 0, 0, 0) :: (374, .iadd, 1, 0, 0, 0) :: (375, .iaload, 1, 0, 0, 0) :: (376, .invokevirtual 45, 3, 67, 3, 1) :: k_0_379
def k_0_360 : List CE := (360, .if_icmp .eq 497, 3, 0, 0, 0) :: (363, .iconst 0, 1, 0, 0, 0) :: (364, .ireturn, 1, 1, 0, 0) :: k_0_365
def k_0_336 : List CE := (336, .aload_n 2, 1, 0, 0, 0) :: (337, .aload_n 0, 1, 0, 0, 0) :: (338, .iload_n 3, 1, 0, 0, 0) :: (339, .iconst 1, 1, 0, 0, 0) :: (340, .iadd, 1, 0, 0, 0) :: (341, .iaload, 1, 0, 0, 0) :: (342, .aload_n 0, 1, 0, 0, 0) :: (343, .iload_n 3, 1, 0, 0, 0) :: (344, .iconst 2, 1, 0, 0, 0) :: (345, .iadd, 1, 0, 0, 0) :: (346, .iaload, 1, 0, 0, 0) :: (347, .aload_n 0, 1, 0, 0, 0) :: (348, .iload_n 3, 1, 0, 0, 0) :: (349, .iconst 3, 1, 0, 0, 0) :: (350, .iadd, 1, 0, 0, 0) :: (351, .iaload, 1, 0, 0, 0) :: (352, .aload_n 0, 1, 0, 0, 0) :: (353, .iload_n 3, 1, 0, 0, 0) :: (354, .iconst 4, 1, 0, 0, 0) :: (355, .iadd, 1, 0, 0, 0) :: (356, .iaload, 1, 0, 0, 0) :: (357, .invokevirtual 44, 3, 190, 5, 11) :: k_0_360
def k_0_312 : List CE := (312, .aload_n 1, 1, 0, 0, 0) :: (313, .aload_n 0, 1, 0, 0, 0) :: (314, .iload_n 3, 1, 0, 0, 0) :: (315, .iconst 1, 1, 0, 0, 0) :: (316, .iadd, 1, 0, 0, 0) :: (317, .iaload, 1, 0, 0, 0) :: (318, .aload_n 0, 1, 0, 0, 0) :: (319, .iload_n 3, 1, 0, 0, 0) :: (320, .iconst 2, 1, 0, 0, 0) :: (321, .iadd, 1, 0, 0, 0) :: (322, .iaload, 1, 0, 0, 0) :: (323, .aload_n 0, 1, 0, 0, 0) :: (324, .iload_n 3, 1, 0, 0, 0) :: (325, .iconst 3, 1, 0, 0, 0) :: (326, .iadd, 1, 0, 0, 0) :: (327, .iaload, 1, 0, 0, 0) :: (328, .aload_n 0, 1, 0, 0, 0) :: (329, .iload_n 3, 1, 0, 0, 0) :: (330, .iconst 4, 1, 0, 0, 0) :: (331, .iadd, 1, 0, 0, 0) :: (332, .iaload, 1, 0, 0, 0) :: (333, .invokevirtual 40, 3, 63, 5, 1) :: k_0_336
def k_0_307 : List CE := (307, .if_icmp .eq 550, 3, 0, 0, 0) :: (310, .iconst 0, 1, 0, 0, 0) :: (311, .ireturn, 1, 1, 0, 0) :: k_0_312
def k_0_298 : List CE := (298, .aload_n 2, 1, 0, 0, 0) :: (299, .aload_n 0, 1, 0, 0, 0) :: (300, .iload_n 3, 1, 0, 0, 0) :: (301, .iconst 1, 1, 0, 0, 0) :: (302, .iadd, 1, 0, 0, 0) :: (303, .iaload, 1, 0, 0, 0) :: (304, .invokevirtual 39, 3, 189, 2, 11) :: k_0_307
def k_0_289 : List CE := (289, .aload_n 1, 1, 0, 0, 0) :: (290, .aload_n 0, 1, 0, 0, 0) :: (291, .iload_n 3, 1, 0, 0, 0) :: (292, .iconst 1, 1, 0, 0, 0) :: (293, .iadd, 1, 0, 0, 0) :: (294, .iaload, 1, 0, 0, 0) :: (295, .invokevirtual 36, 3, 62, 2, 1) :: k_0_298
def k_0_284 : List CE := (284, .if_icmp .eq 573, 3, 0, 0, 0) :: (287, .iconst 0, 1, 0, 0, 0) :: (288, .ireturn, 1, 1, 0, 0) :: k_0_289
def k_0_255 : List CE := (255, .aload_n 2, 1, 0, 0, 0) :: (256, .aload_n 0, 1, 0, 0, 0) :: (257, .iload_n 3, 1, 0, 0, 0) :: (258, .iconst 1, 1, 0, 0, 0) :: (259, .iadd, 1, 0, 0, 0) :: (260, .iaload, 1, 0, 0, 0) :: (261, .aload_n 0, 1, 0, 0, 0) :: (262, .iload_n 3, 1, 0, 0, 0) :: (263, .iconst 2, 1, 0, 0, 0) :: (264, .iadd, 1, 0, 0, 0) :: (265, .iaload, 1, 0, 0, 0) :: (266, .aload_n 0, 1, 0, 0, 0) :: (267, .iload_n 3, 1, 0, 0, 0) :: (268, .iconst 3, 1, 0, 0, 0) :: (269, .iadd, 1, 0, 0, 0) :: (270, .iaload, 1, 0, 0, 0) :: (271, .aload_n 0, 1, 0, 0, 0) :: (272, .iload_n 3, 1, 0, 0, 0) :: (273, .iconst 4, 1, 0, 0, 0) :: (274, .iadd, 1, 0, 0, 0) :: (275, .iaload, 1, 0, 0, 0) :: (276, .aload_n 0, 1, 0, 0, 0) :: (277, .iload_n 3, 1, 0, 0, 0) :: (278, .iconst 5, 1, 0, 0, 0) :: (279, .iadd, 1, 0, 0, 0) :: (280, .iaload, 1, 0, 0, 0) :: (281, .invokevirtual 35, 3, 187, 6, 11) :: k_0_284
def k_0_226 : List CE := (226, .aload_n 1, 1, 0, 0, 0) :: (227, .aload_n 0, 1, 0, 0, 0) :: (228, .iload_n 3, 1, 0, 0, 0) :: (229, .iconst 1, 1, 0, 0, 0) :: (230, .iadd, 1, 0, 0, 0) :: (231, .iaload, 1, 0, 0, 0) :: (232, .aload_n 0, 1, 0, 0, 0) :: (233, .iload_n 3, 1, 0, 0, 0) :: (234, .iconst 2, 1, 0, 0, 0) :: (235, .iadd, 1, 0, 0, 0) :: (236, .iaload, 1, 0, 0, 0) :: (237, .aload_n 0, 1, 0, 0, 0) :: (238, .iload_n 3, 1, 0, 0, 0) :: (239, .iconst 3, 1, 0, 0, 0) :: (240, .iadd, 1, 0, 0, 0) :: (241, .iaload, 1, 0, 0, 0) :: (242, .aload_n 0, 1, 0, 0, 0) :: (243, .iload_n 3, 1, 0, 0, 0) :: (244, .iconst 4, 1, 0, 0, 0) :: (245, .iadd, 1, 0, 0, 0) :: (246, .iaload, 1, 0, 0, 0) :: (247, .aload_n 0, 1, 0, 0, 0) :: (248, .iload_n 3, 1, 0, 0, 0) :: (249, .iconst 5, 1, 0, 0, 0) :: (250, .iadd, 1, 0, 0, 0) :: (251, .iaload, 1, 0, 0, 0) :: (252, .invokevirtual 31, 3, 58, 6, 1) :: k_0_255
def k_0_221 : List CE := (221, .if_icmp .eq 636, 3, 0, 0, 0) :: (224, .iconst 0, 1, 0, 0, 0) :: (225, .ireturn, 1, 1, 0, 0) :: k_0_226
def k_0_212 : List CE := (212, .aload_n 2, 1, 0, 0, 0) :: (213, .aload_n 0, 1, 0, 0, 0) :: (214, .iload_n 3, 1, 0, 0, 0) :: (215, .iconst 1, 1, 0, 0, 0) :: (216, .iadd, 1, 0, 0, 0) :: (217, .iaload, 1, 0, 0, 0) :: (218, .invokevirtual 30, 3, 186, 2, 11) :: k_0_221
def k_0_203 : List CE := (203, .aload_n 1, 1, 0, 0, 0) :: (204, .aload_n 0, 1, 0, 0, 0) :: (205, .iload_n 3, 1, 0, 0, 0) :: (206, .iconst 1, 1, 0, 0, 0) :: (207, .iadd, 1, 0, 0, 0) :: (208, .iaload, 1, 0, 0, 0) :: (209, .invokevirtual 27, 3, 57, 2, 1) :: k_0_212
def k_0_198 : List CE := (198, .if_icmp .eq 659, 3, 0, 0, 0) :: (201, .iconst 0, 1, 0, 0, 0) :: (202, .ireturn, 1, 1, 0, 0) :: k_0_203
def k_0_189 : List CE := (189, .aload_n 2, 1, 0, 0, 0) :: (190, .aload_n 0, 1, 0, 0, 0) :: (191, .iload_n 3, 1, 0, 0, 0) :: (192, .iconst 1, 1, 0, 0, 0) :: (193, .iadd, 1, 0, 0, 0) :: (194, .iaload, 1, 0, 0, 0) :: (195, .invokevirtual 26, 3, 172, 2, 11) :: k_0_198
def k_0_180 : List CE := (180, .aload_n 1, 1, 0, 0, 0) :: (181, .aload_n 0, 1, 0, 0, 0) :: (182, .iload_n 3, 1, 0, 0, 0) :: (183, .iconst 1, 1, 0, 0, 0) :: (184, .iadd, 1, 0, 0, 0) :: (185, .iaload, 1, 0, 0, 0) :: (186, .invokevirtual 23, 3, 13, 2, 1) :: k_0_189
def k_0_175 : List CE := (175, .if_icmp .eq 682, 3, 0, 0, 0) :: (178, .iconst 0, 1, 0, 0, 0) :: (179, .ireturn, 1, 1, 0, 0) :: k_0_180
def k_0_171 : List CE := (171, .aload_n 2, 1, 0, 0, 0) :: (172, .invokevirtual 22, 3, 171, 1, 11) :: k_0_175
def k_0_167 : List CE := (167, .aload_n 1, 1, 0, 0, 0) :: (168, .invokevirtual 18, 3, 12, 1, 1) :: k_0_171
def k_0_162 : List CE := (162, .if_icmp .eq 695, 3, 0, 0, 0) :: (165, .iconst 0, 1, 0, 0, 0) :: (166, .ireturn, 1, 1, 0, 0) :: k_0_167
def k_0_153 : List CE := (153, .aload_n 2, 1, 0, 0, 0) :: (154, .aload_n 0, 1, 0, 0, 0) :: (155, .iload_n 3, 1, 0, 0, 0) :: (156, .iconst 1, 1, 0, 0, 0) :: (157, .iadd, 1, 0, 0, 0) :: (158, .iaload, 1, 0, 0, 0) :: (159, .invokevirtual 17, 3, 169, 2, 11) :: k_0_162
def k_0_144 : List CE := (144, .aload_n 1, 1, 0, 0, 0) :: (145, .aload_n 0, 1, 0, 0, 0) :: (146, .iload_n 3, 1, 0, 0, 0) :: (147, .iconst 1, 1, 0, 0, 0) :: (148, .iadd, 1, 0, 0, 0) :: (149, .iaload, 1, 0, 0, 0) :: (150, .invokevirtual 13, 3, 10, 2, 1) :: k_0_153
def k_0_18 : List CE := (18, .iload_n 3, 1, 0, 0, 0) :: (19, .aload_n 0, 1, 0, 0, 0) :: (20, .arraylength, 1, 0, 0, 0) :: (21, .bipush 6, 2, 0, 0, 0) :: (23, .isub, 1, 0, 0, 0) :: (24, .if_icmp .gt 839, 3, 0, 0, 0) :: (27, .aload_n 0, 1, 0, 0, 0) :: (28, .iload_n 3, 1, 0, 0, 0) :: (29, .iaload, 1, 0, 0, 0) :: (30, .bipush 31, 2, 0, 0, 0) :: (32, .iand, 1, 0, 0, 0) :: (33, .tableswitch 824 0 23 #[111, 134, 147, 170, 193, 256, 279, 332, 365, 398, 431, 454, 467, 480, 503, 536, 569, 602, 635, 658, 691, 724, 767, 800], 111, 0, 0, 0) :: k_0_144
def k_0_15 : List CE := (15, .astore_n 2, 1, 0, 0, 0) :: (16, .iconst 0, 1, 0, 0, 0) :: (17, .istore_n 3, 1, 0, 0, 0) :: k_0_18
def k_0_7 : List CE := (7, .astore_n 1, 1, 0, 0, 0) :: (8, .new 10, 3, 10, 55, 0) :: (11, .dup, 1, 0, 0, 0) :: (12, .invokespecial 12, 3, 168, 1, 11) :: k_0_15
def k_0_0 : List CE := (0, .new 7, 3, 0, 5, 0) :: (3, .dup, 1, 0, 0, 0) :: (4, .invokespecial 9, 3, 1, 1, 1) :: k_0_7
/-- PageInterpreter.<init>()V -/
def k_1_73 : List CE := (73, .return_, 1, 0, 0, 0) :: []
def k_1_66 : List CE := (66, .aastore, 1, 0, 0, 0) :: (67, .iinc 1 1, 3, 0, 0, 0) :: (70, .goto (-22), 3, 0, 0, 0) :: k_1_73
def k_1_48 : List CE := (48, .iload_n 1, 1, 0, 0, 0) :: (49, .bipush 6, 2, 0, 0, 0) :: (51, .if_icmp .ge 22, 3, 0, 0, 0) :: (54, .aload_n 0, 1, 0, 0, 0) :: (55, .getfield 23, 3, 0, 2, 2) :: (58, .iload_n 1, 1, 0, 0, 0) :: (59, .new 16, 3, 3, 7, 0) :: (62, .dup, 1, 0, 0, 0) :: (63, .invokespecial 18, 3, 4, 1, 4) :: k_1_66
def k_1_43 : List CE := (43, .putfield 30, 3, 0, 2, 3) :: (46, .iconst 0, 1, 0, 0, 0) :: (47, .istore_n 1, 1, 0, 0, 0) :: k_1_48
def k_1_23 : List CE := (23, .putfield 19, 3, 0, 2, 1) :: (26, .aload_n 0, 1, 0, 0, 0) :: (27, .bipush 6, 2, 0, 0, 0) :: (29, .anewarray 16, 3, 113, 0, 0) :: (32, .putfield 23, 3, 0, 2, 2) :: (35, .aload_n 0, 1, 0, 0, 0) :: (36, .new 27, 3, 4, 18, 0) :: (39, .dup, 1, 0, 0, 0) :: (40, .invokespecial 29, 3, 5, 1, 5) :: k_1_43
def k_1_12 : List CE := (12, .putfield 12, 3, 0, 2, 0) :: (15, .aload_n 0, 1, 0, 0, 0) :: (16, .new 16, 3, 3, 7, 0) :: (19, .dup, 1, 0, 0, 0) :: (20, .invokespecial 18, 3, 4, 1, 4) :: k_1_23
def k_1_0 : List CE := (0, .aload_n 0, 1, 0, 0, 0) :: (1, .invokespecial 3, 3, 0, 0, (-1)) :: (4, .aload_n 0, 1, 0, 0, 0) :: (5, .new 9, 3, 1, 7, 0) :: (8, .dup, 1, 0, 0, 0) :: (9, .invokespecial 11, 3, 2, 1, 2) :: k_1_12
/-- PageInterpreter$Reader.<init>()V -/
def k_2_49 : List CE := (49, .putfield 31, 3, 1, 2, 4) :: (52, .return_, 1, 0, 0, 0) :: []
def k_2_0 : List CE := (0, .aload_n 0, 1, 0, 0, 0) :: (1, .invokespecial 3, 3, 0, 0, (-1)) :: (4, .aload_n 0, 1, 0, 0, 0) :: (5, .sipush 160, 3, 0, 0, 0) :: (8, .newarray .int, 2, 100, 0, 0) :: (10, .putfield 9, 3, 1, 2, 0) :: (13, .aload_n 0, 1, 0, 0, 0) :: (14, .sipush 160, 3, 0, 0, 0) :: (17, .anewarray 15, 3, 150, 0, 0) :: (20, .putfield 17, 3, 1, 2, 1) :: (23, .aload_n 0, 1, 0, 0, 0) :: (24, .sipush 160, 3, 0, 0, 0) :: (27, .newarray .long, 2, 101, 0, 0) :: (29, .putfield 21, 3, 1, 2, 2) :: (32, .aload_n 0, 1, 0, 0, 0) :: (33, .sipush 160, 3, 0, 0, 0) :: (36, .newarray .int, 2, 100, 0, 0) :: (38, .putfield 25, 3, 1, 2, 3) :: (41, .aload_n 0, 1, 0, 0, 0) :: (42, .new 28, 3, 2, 8, 0) :: (45, .dup, 1, 0, 0, 0) :: (46, .invokespecial 30, 3, 3, 1, 3) :: k_2_49
/-- PageInterpreter$Structure.<init>()V -/
def k_3_0 : List CE := (0, .aload_n 0, 1, 0, 0, 0) :: (1, .invokespecial 3, 3, 0, 0, (-1)) :: (4, .aload_n 0, 1, 0, 0, 0) :: (5, .bipush 9, 2, 0, 0, 0) :: (7, .anewarray 9, 3, 150, 0, 0) :: (10, .putfield 11, 3, 2, 2, 0) :: (13, .aload_n 0, 1, 0, 0, 0) :: (14, .bipush 9, 2, 0, 0, 0) :: (16, .newarray .int, 2, 100, 0, 0) :: (18, .putfield 17, 3, 2, 2, 1) :: (21, .return_, 1, 0, 0, 0) :: []
/-- PageInterpreter$State.<init>()V -/
def k_4_0 : List CE := (0, .aload_n 0, 1, 0, 0, 0) :: (1, .invokespecial 3, 3, 0, 0, (-1)) :: (4, .aload_n 0, 1, 0, 0, 0) :: (5, .bipush 7, 2, 0, 0, 0) :: (7, .anewarray 9, 3, 119, 0, 0) :: (10, .putfield 11, 3, 3, 2, 0) :: (13, .aload_n 0, 1, 0, 0, 0) :: (14, .bipush 6, 2, 0, 0, 0) :: (16, .newarray .boolean, 2, 102, 0, 0) :: (18, .putfield 17, 3, 3, 2, 1) :: (21, .aload_n 0, 1, 0, 0, 0) :: (22, .bipush 24, 2, 0, 0, 0) :: (24, .newarray .int, 2, 100, 0, 0) :: (26, .putfield 21, 3, 3, 2, 2) :: (29, .aload_n 0, 1, 0, 0, 0) :: (30, .bipush 56, 2, 0, 0, 0) :: (32, .newarray .int, 2, 100, 0, 0) :: (34, .putfield 25, 3, 3, 2, 3) :: (37, .aload_n 0, 1, 0, 0, 0) :: (38, .bipush 12, 2, 0, 0, 0) :: (40, .putfield 28, 3, 3, 0, 4) :: (43, .aload_n 0, 1, 0, 0, 0) :: (44, .bipush 12, 2, 0, 0, 0) :: (46, .putfield 32, 3, 3, 0, 5) :: (49, .aload_n 0, 1, 0, 0, 0) :: (50, .bipush 120, 2, 0, 0, 0) :: (52, .putfield 35, 3, 3, 0, 6) :: (55, .return_, 1, 0, 0, 0) :: []
/-- PageInterpreter$Machine.<init>()V -/
def k_5_150 : List CE := (150, .return_, 1, 0, 0, 0) :: []
def k_5_143 : List CE := (143, .aastore, 1, 0, 0, 0) :: (144, .iinc 1 1, 3, 0, 0, 0) :: (147, .goto (-25), 3, 0, 0, 0) :: k_5_150
def k_5_122 : List CE := (122, .iload_n 1, 1, 0, 0, 0) :: (123, .aload_n 0, 1, 0, 0, 0) :: (124, .getfield 19, 3, 4, 2, 1) :: (127, .arraylength, 1, 0, 0, 0) :: (128, .if_icmp .ge 22, 3, 0, 0, 0) :: (131, .aload_n 0, 1, 0, 0, 0) :: (132, .getfield 19, 3, 4, 2, 1) :: (135, .iload_n 1, 1, 0, 0, 0) :: (136, .new 17, 3, 8, 4, 0) :: (139, .dup, 1, 0, 0, 0) :: (140, .invokespecial 57, 3, 9, 1, 9) :: k_5_143
def k_5_120 : List CE := (120, .iconst 0, 1, 0, 0, 0) :: (121, .istore_n 1, 1, 0, 0, 0) :: k_5_122
def k_5_113 : List CE := (113, .aastore, 1, 0, 0, 0) :: (114, .iinc 1 1, 3, 0, 0, 0) :: (117, .goto (-25), 3, 0, 0, 0) :: k_5_120
def k_5_92 : List CE := (92, .iload_n 1, 1, 0, 0, 0) :: (93, .aload_n 0, 1, 0, 0, 0) :: (94, .getfield 11, 3, 4, 2, 0) :: (97, .arraylength, 1, 0, 0, 0) :: (98, .if_icmp .ge 22, 3, 0, 0, 0) :: (101, .aload_n 0, 1, 0, 0, 0) :: (102, .getfield 11, 3, 4, 2, 0) :: (105, .iload_n 1, 1, 0, 0, 0) :: (106, .new 9, 3, 7, 8, 0) :: (109, .dup, 1, 0, 0, 0) :: (110, .invokespecial 56, 3, 8, 1, 8) :: k_5_113
def k_5_44 : List CE := (44, .putfield 35, 3, 4, 2, 3) :: (47, .aload_n 0, 1, 0, 0, 0) :: (48, .sipush 200, 3, 0, 0, 0) :: (51, .newarray .int, 2, 100, 0, 0) :: (53, .putfield 39, 3, 4, 2, 4) :: (56, .aload_n 0, 1, 0, 0, 0) :: (57, .sipush 200, 3, 0, 0, 0) :: (60, .newarray .int, 2, 100, 0, 0) :: (62, .putfield 43, 3, 4, 2, 5) :: (65, .aload_n 0, 1, 0, 0, 0) :: (66, .sipush 200, 3, 0, 0, 0) :: (69, .newarray .int, 2, 100, 0, 0) :: (71, .putfield 46, 3, 4, 2, 6) :: (74, .aload_n 0, 1, 0, 0, 0) :: (75, .bipush 6, 2, 0, 0, 0) :: (77, .newarray .long, 2, 101, 0, 0) :: (79, .putfield 49, 3, 4, 2, 7) :: (82, .aload_n 0, 1, 0, 0, 0) :: (83, .bipush 8, 2, 0, 0, 0) :: (85, .newarray .int, 2, 100, 0, 0) :: (87, .putfield 53, 3, 4, 2, 8) :: (90, .iconst 0, 1, 0, 0, 0) :: (91, .istore_n 1, 1, 0, 0, 0) :: k_5_92
def k_5_29 : List CE := (29, .putfield 26, 3, 4, 2, 2) :: (32, .aload_n 0, 1, 0, 0, 0) :: (33, .new 30, 3, 6, 9, 0) :: (36, .dup, 1, 0, 0, 0) :: (37, .aload_n 0, 1, 0, 0, 0) :: (38, .getfield 26, 3, 4, 2, 2) :: (41, .invokespecial 32, 3, 7, 2, 7) :: k_5_44
def k_5_0 : List CE := (0, .aload_n 0, 1, 0, 0, 0) :: (1, .invokespecial 3, 3, 0, 0, (-1)) :: (4, .aload_n 0, 1, 0, 0, 0) :: (5, .iconst 5, 1, 0, 0, 0) :: (6, .anewarray 9, 3, 117, 0, 0) :: (9, .putfield 11, 3, 4, 2, 0) :: (12, .aload_n 0, 1, 0, 0, 0) :: (13, .bipush 35, 2, 0, 0, 0) :: (15, .anewarray 17, 3, 118, 0, 0) :: (18, .putfield 19, 3, 4, 2, 1) :: (21, .aload_n 0, 1, 0, 0, 0) :: (22, .new 23, 3, 5, 8, 0) :: (25, .dup, 1, 0, 0, 0) :: (26, .invokespecial 25, 3, 6, 1, 6) :: k_5_29
/-- PageInterpreter$Paths.<init>()V -/
def k_6_0 : List CE := (0, .aload_n 0, 1, 0, 0, 0) :: (1, .invokespecial 3, 3, 0, 0, (-1)) :: (4, .aload_n 0, 1, 0, 0, 0) :: (5, .sipush 800, 3, 0, 0, 0) :: (8, .newarray .int, 2, 100, 0, 0) :: (10, .putfield 9, 3, 5, 2, 0) :: (13, .aload_n 0, 1, 0, 0, 0) :: (14, .sipush 800, 3, 0, 0, 0) :: (17, .newarray .int, 2, 100, 0, 0) :: (19, .putfield 15, 3, 5, 2, 1) :: (22, .aload_n 0, 1, 0, 0, 0) :: (23, .sipush 800, 3, 0, 0, 0) :: (26, .newarray .boolean, 2, 102, 0, 0) :: (28, .putfield 18, 3, 5, 2, 2) :: (31, .aload_n 0, 1, 0, 0, 0) :: (32, .sipush 201, 3, 0, 0, 0) :: (35, .newarray .int, 2, 100, 0, 0) :: (37, .putfield 22, 3, 5, 2, 3) :: (40, .aload_n 0, 1, 0, 0, 0) :: (41, .sipush 201, 3, 0, 0, 0) :: (44, .newarray .boolean, 2, 102, 0, 0) :: (46, .putfield 25, 3, 5, 2, 4) :: (49, .return_, 1, 0, 0, 0) :: []
/-- PageInterpreter$Items.<init>(LPageInterpreter$Paths;)V -/
def k_7_0 : List CE := (0, .aload_n 0, 1, 0, 0, 0) :: (1, .invokespecial 3, 3, 0, 0, (-1)) :: (4, .aload_n 0, 1, 0, 0, 0) :: (5, .bipush 30, 2, 0, 0, 0) :: (7, .newarray .int, 2, 100, 0, 0) :: (9, .putfield 9, 3, 6, 2, 1) :: (12, .aload_n 0, 1, 0, 0, 0) :: (13, .bipush 30, 2, 0, 0, 0) :: (15, .newarray .boolean, 2, 102, 0, 0) :: (17, .putfield 15, 3, 6, 2, 2) :: (20, .aload_n 0, 1, 0, 0, 0) :: (21, .bipush 30, 2, 0, 0, 0) :: (23, .newarray .int, 2, 100, 0, 0) :: (25, .putfield 19, 3, 6, 2, 3) :: (28, .aload_n 0, 1, 0, 0, 0) :: (29, .bipush 30, 2, 0, 0, 0) :: (31, .newarray .int, 2, 100, 0, 0) :: (33, .putfield 22, 3, 6, 2, 4) :: (36, .aload_n 0, 1, 0, 0, 0) :: (37, .bipush 30, 2, 0, 0, 0) :: (39, .newarray .int, 2, 100, 0, 0) :: (41, .putfield 25, 3, 6, 2, 5) :: (44, .aload_n 0, 1, 0, 0, 0) :: (45, .bipush 30, 2, 0, 0, 0) :: (47, .newarray .int, 2, 100, 0, 0) :: (49, .putfield 28, 3, 6, 2, 6) :: (52, .aload_n 0, 1, 0, 0, 0) :: (53, .sipush 180, 3, 0, 0, 0) :: (56, .newarray .int, 2, 100, 0, 0) :: (58, .putfield 31, 3, 6, 2, 7) :: (61, .aload_n 0, 1, 0, 0, 0) :: (62, .aload_n 1, 1, 0, 0, 0) :: (63, .putfield 34, 3, 6, 2, 0) :: (66, .return_, 1, 0, 0, 0) :: []
/-- PageInterpreter$Frame.<init>()V -/
def k_8_0 : List CE := (0, .aload_n 0, 1, 0, 0, 0) :: (1, .invokespecial 3, 3, 0, 0, (-1)) :: (4, .aload_n 0, 1, 0, 0, 0) :: (5, .bipush 16, 2, 0, 0, 0) :: (7, .newarray .long, 2, 101, 0, 0) :: (9, .putfield 9, 3, 7, 2, 0) :: (12, .aload_n 0, 1, 0, 0, 0) :: (13, .iconst 3, 1, 0, 0, 0) :: (14, .newarray .int, 2, 100, 0, 0) :: (16, .putfield 15, 3, 7, 2, 1) :: (19, .aload_n 0, 1, 0, 0, 0) :: (20, .iconst 3, 1, 0, 0, 0) :: (21, .newarray .int, 2, 100, 0, 0) :: (23, .putfield 19, 3, 7, 2, 2) :: (26, .return_, 1, 0, 0, 0) :: []
/-- PageInterpreter$Graphics.<init>()V -/
def k_9_0 : List CE := (0, .aload_n 0, 1, 0, 0, 0) :: (1, .invokespecial 3, 3, 0, 0, (-1)) :: (4, .aload_n 0, 1, 0, 0, 0) :: (5, .bipush 6, 2, 0, 0, 0) :: (7, .newarray .long, 2, 101, 0, 0) :: (9, .putfield 9, 3, 8, 2, 0) :: (12, .aload_n 0, 1, 0, 0, 0) :: (13, .bipush 6, 2, 0, 0, 0) :: (15, .newarray .int, 2, 100, 0, 0) :: (17, .putfield 15, 3, 8, 2, 1) :: (20, .return_, 1, 0, 0, 0) :: []
/-- PageInterpreter.append(I)I -/
def k_10_29 : List CE := (29, .aload_n 0, 1, 0, 0, 0) :: (30, .getfield 12, 3, 0, 2, 0) :: (33, .getfield 40, 3, 1, 0, 5) :: (36, .ireturn, 1, 0, 0, 0) :: []
def k_10_23 : List CE := (23, .ifCond .ne 6, 3, 0, 0, 0) :: (26, .ldc 39, 2, 0, 0, (-10000003)) :: (28, .ireturn, 1, 0, 0, 0) :: k_10_29
def k_10_15 : List CE := (15, .aload_n 0, 1, 0, 0, 0) :: (16, .getfield 12, 3, 0, 2, 0) :: (19, .iload_n 1, 1, 0, 0, 0) :: (20, .invokevirtual 35, 3, 11, 2, 2) :: k_10_23
def k_10_12 : List CE := (12, .ldc 34, 2, 0, 0, (-10000001)) :: (14, .ireturn, 1, 0, 0, 0) :: k_10_15
def k_10_0 : List CE := (0, .iload_n 1, 1, 0, 0, 0) :: (1, .iconst 1, 1, 0, 0, 0) :: (2, .if_icmp .lt 10, 3, 0, 0, 0) :: (5, .iload_n 1, 1, 0, 0, 0) :: (6, .sipush 255, 3, 0, 0, 0) :: (9, .if_icmp .le 6, 3, 0, 0, 0) :: k_10_12
/-- PageInterpreter$Reader.add(I)Z -/
def k_11_19 : List CE := (19, .aload_n 0, 1, 0, 0, 0) :: (20, .getfield 9, 3, 1, 2, 0) :: (23, .aload_n 0, 1, 0, 0, 0) :: (24, .getfield 35, 3, 1, 0, 5) :: (27, .iload_n 1, 1, 0, 0, 0) :: (28, .iastore, 1, 0, 0, 0) :: (29, .aload_n 0, 1, 0, 0, 0) :: (30, .dup, 1, 0, 0, 0) :: (31, .getfield 35, 3, 1, 0, 5) :: (34, .iconst 1, 1, 0, 0, 0) :: (35, .iadd, 1, 0, 0, 0) :: (36, .putfield 35, 3, 1, 0, 5) :: (39, .iconst 1, 1, 0, 0, 0) :: (40, .ireturn, 1, 1, 0, 0) :: []
def k_11_17 : List CE := (17, .iconst 0, 1, 0, 0, 0) :: (18, .ireturn, 1, 1, 0, 0) :: k_11_19
def k_11_0 : List CE := (0, .aload_n 0, 1, 0, 0, 0) :: (1, .getfield 35, 3, 1, 0, 5) :: (4, .ifCond .lt 13, 3, 0, 0, 0) :: (7, .aload_n 0, 1, 0, 0, 0) :: (8, .getfield 35, 3, 1, 0, 5) :: (11, .sipush 160, 3, 0, 0, 0) :: (14, .if_icmp .lt 5, 3, 0, 0, 0) :: k_11_17
/-- PageInterpreter.clearBuffer()I -/
def k_12_0 : List CE := (0, .aload_n 0, 1, 0, 0, 0) :: (1, .getfield 12, 3, 0, 2, 0) :: (4, .getfield 40, 3, 1, 0, 5) :: (7, .istore_n 1, 1, 0, 0, 0) :: (8, .aload_n 0, 1, 0, 0, 0) :: (9, .getfield 12, 3, 0, 2, 0) :: (12, .iconst 0, 1, 0, 0, 0) :: (13, .putfield 40, 3, 1, 0, 5) :: (16, .iload_n 1, 1, 0, 0, 0) :: (17, .ireturn, 1, 0, 0, 0) :: []
/-- PageInterpreter.setStream(I)I -/
def k_13_38 : List CE := (38, .astore_n 3, 1, 0, 0, 0) :: (39, .aload_n 0, 1, 0, 0, 0) :: (40, .getfield 19, 3, 0, 2, 1) :: (43, .getfield 58, 3, 3, 2, 0) :: (46, .iload_n 1, 1, 0, 0, 0) :: (47, .iconst 1, 1, 0, 0, 0) :: (48, .iadd, 1, 0, 0, 0) :: (49, .aload_n 3, 1, 0, 0, 0) :: (50, .aastore, 1, 0, 0, 0) :: (51, .aload_n 0, 1, 0, 0, 0) :: (52, .getfield 12, 3, 0, 2, 0) :: (55, .iconst 0, 1, 0, 0, 0) :: (56, .putfield 40, 3, 1, 0, 5) :: (59, .aload_n 3, 1, 0, 0, 0) :: (60, .getfield 62, 3, 9, 0, 3) :: (63, .ireturn, 1, 0, 0, 0) :: []
def k_13_31 : List CE := (31, .aload_n 0, 1, 0, 0, 0) :: (32, .getfield 12, 3, 0, 2, 0) :: (35, .invokevirtual 54, 3, 51, 1, 2) :: k_13_38
def k_13_27 : List CE := (27, .aload_n 0, 1, 0, 0, 0) :: (28, .invokevirtual 51, 3, 48, 1, 1) :: k_13_31
def k_13_17 : List CE := (17, .istore_n 2, 1, 0, 0, 0) :: (18, .iload_n 2, 1, 0, 0, 0) :: (19, .ifCond .lt 8, 3, 0, 0, 0) :: (22, .bipush (-10), 2, 0, 0, 0) :: (24, .iload_n 2, 1, 0, 0, 0) :: (25, .isub, 1, 0, 0, 0) :: (26, .ireturn, 1, 0, 0, 0) :: k_13_27
def k_13_10 : List CE := (10, .aload_n 0, 1, 0, 0, 0) :: (11, .getfield 12, 3, 0, 2, 0) :: (14, .invokevirtual 47, 3, 16, 1, 2) :: k_13_17
def k_13_4 : List CE := (4, .ifCond .ne 6, 3, 0, 0, 0) :: (7, .ldc 34, 2, 0, 0, (-10000001)) :: (9, .ireturn, 1, 0, 0, 0) :: k_13_10
def k_13_0 : List CE := (0, .iload_n 1, 1, 0, 0, 0) :: (1, .invokestatic 44, 3, 14, 1, 0) :: k_13_4
/-- PageInterpreter.isStream(I)Z -/
def k_14_6 : List CE := (6, .ireturn, 1, 1, 0, 0) :: []
def k_14_0 : List CE := (0, .iload_n 0, 1, 0, 0, 0) :: (1, .iconst (-1), 1, 0, 0, 0) :: (2, .iconst 5, 1, 0, 0, 0) :: (3, .invokestatic 96, 3, 15, 3, 0) :: k_14_6
/-- PageInterpreter.isBetween(III)Z -/
def k_15_15 : List CE := (15, .ireturn, 1, 1, 0, 0) :: []
def k_15_14 : List CE := (14, .iconst 0, 1, 0, 0, 0) :: k_15_15
def k_15_0 : List CE := (0, .iload_n 0, 1, 0, 0, 0) :: (1, .iload_n 1, 1, 0, 0, 0) :: (2, .if_icmp .lt 12, 3, 0, 0, 0) :: (5, .iload_n 0, 1, 0, 0, 0) :: (6, .iload_n 2, 1, 0, 0, 0) :: (7, .if_icmp .gt 7, 3, 0, 0, 0) :: (10, .iconst 1, 1, 0, 0, 0) :: (11, .goto 4, 3, 0, 0, 0) :: k_15_14
/-- PageInterpreter$Reader.read()I -/
def k_16_92 : List CE := (92, .ireturn, 1, 0, 0, 0) :: []
def k_16_88 : List CE := (88, .aload_n 0, 1, 0, 0, 0) :: (89, .getfield 35, 3, 1, 0, 5) :: k_16_92
def k_16_81 : List CE := (81, .ifCond .eq 7, 3, 0, 0, 0) :: (84, .iconst (-1), 1, 0, 0, 0) :: (85, .goto 7, 3, 0, 0, 0) :: k_16_88
def k_16_74 : List CE := (74, .aload_n 0, 1, 0, 0, 0) :: (75, .getfield 31, 3, 1, 2, 4) :: (78, .invokevirtual 61, 3, 47, 1, 3) :: k_16_81
def k_16_67 : List CE := (67, .istore_n 1, 1, 0, 0, 0) :: (68, .iinc 2 1, 3, 0, 0, 0) :: (71, .goto (-51), 3, 0, 0, 0) :: k_16_74
def k_16_52 : List CE := (52, .aload_n 0, 1, 0, 0, 0) :: (53, .dup, 1, 0, 0, 0) :: (54, .getfield 41, 3, 1, 0, 6) :: (57, .iconst 1, 1, 0, 0, 0) :: (58, .iadd, 1, 0, 0, 0) :: (59, .putfield 41, 3, 1, 0, 6) :: (62, .aload_n 0, 1, 0, 0, 0) :: (63, .iload_n 3, 1, 0, 0, 0) :: (64, .invokevirtual 50, 3, 19, 2, 2) :: k_16_67
def k_16_47 : List CE := (47, .ifCond .ne 5, 3, 0, 0, 0) :: (50, .iload_n 1, 1, 0, 0, 0) :: (51, .ireturn, 1, 0, 0, 0) :: k_16_52
def k_16_40 : List CE := (40, .istore_n 3, 1, 0, 0, 0) :: (41, .aload_n 0, 1, 0, 0, 0) :: (42, .iload_n 1, 1, 0, 0, 0) :: (43, .iload_n 3, 1, 0, 0, 0) :: (44, .invokevirtual 57, 3, 25, 3, 2) :: k_16_47
def k_16_20 : List CE := (20, .iload_n 2, 1, 0, 0, 0) :: (21, .sipush 160, 3, 0, 0, 0) :: (24, .if_icmp .ge 50, 3, 0, 0, 0) :: (27, .iload_n 1, 1, 0, 0, 0) :: (28, .aload_n 0, 1, 0, 0, 0) :: (29, .getfield 35, 3, 1, 0, 5) :: (32, .if_icmp .ge 42, 3, 0, 0, 0) :: (35, .aload_n 0, 1, 0, 0, 0) :: (36, .iload_n 1, 1, 0, 0, 0) :: (37, .invokevirtual 54, 3, 21, 2, 2) :: k_16_40
def k_16_17 : List CE := (17, .istore_n 1, 1, 0, 0, 0) :: (18, .iconst 0, 1, 0, 0, 0) :: (19, .istore_n 2, 1, 0, 0, 0) :: k_16_20
def k_16_12 : List CE := (12, .aload_n 0, 1, 0, 0, 0) :: (13, .iconst 0, 1, 0, 0, 0) :: (14, .invokevirtual 50, 3, 19, 2, 2) :: k_16_17
def k_16_0 : List CE := (0, .aload_n 0, 1, 0, 0, 0) :: (1, .iconst 0, 1, 0, 0, 0) :: (2, .putfield 41, 3, 1, 0, 6) :: (5, .aload_n 0, 1, 0, 0, 0) :: (6, .getfield 31, 3, 1, 2, 4) :: (9, .invokevirtual 47, 3, 17, 1, 3) :: k_16_12
/-- PageInterpreter$Structure.begin()V -/
def k_17_19 : List CE := (19, .return_, 1, 0, 0, 0) :: []
def k_17_0 : List CE := (0, .aload_n 0, 1, 0, 0, 0) :: (1, .iconst 0, 1, 0, 0, 0) :: (2, .putfield 21, 3, 2, 0, 2) :: (5, .aload_n 0, 1, 0, 0, 0) :: (6, .iconst 0, 1, 0, 0, 0) :: (7, .putfield 25, 3, 2, 0, 3) :: (10, .aload_n 0, 1, 0, 0, 0) :: (11, .iconst 0, 1, 0, 0, 0) :: (12, .putfield 28, 3, 2, 0, 4) :: (15, .aload_n 0, 1, 0, 0, 0) :: (16, .invokevirtual 31, 3, 18, 1, 3) :: k_17_19
/-- PageInterpreter$Structure.endPath()V -/
def k_18_0 : List CE := (0, .aload_n 0, 1, 0, 0, 0) :: (1, .iconst 0, 1, 0, 0, 0) :: (2, .putfield 34, 3, 2, 3, 5) :: (5, .aload_n 0, 1, 0, 0, 0) :: (6, .iconst 0, 1, 0, 0, 0) :: (7, .putfield 38, 3, 2, 3, 6) :: (10, .aload_n 0, 1, 0, 0, 0) :: (11, .iconst 0, 1, 0, 0, 0) :: (12, .putfield 41, 3, 2, 3, 7) :: (15, .return_, 1, 0, 0, 0) :: []
/-- PageInterpreter$Reader.skipSpaces(I)I -/
def k_19_26 : List CE := (26, .iload_n 2, 1, 0, 0, 0) :: (27, .ireturn, 1, 0, 0, 0) :: []
def k_19_15 : List CE := (15, .bipush 32, 2, 0, 0, 0) :: (17, .if_icmp .ne 9, 3, 0, 0, 0) :: (20, .iinc 2 1, 3, 0, 0, 0) :: (23, .goto (-21), 3, 0, 0, 0) :: k_19_26
def k_19_2 : List CE := (2, .iload_n 2, 1, 0, 0, 0) :: (3, .aload_n 0, 1, 0, 0, 0) :: (4, .getfield 35, 3, 1, 0, 5) :: (7, .if_icmp .ge 19, 3, 0, 0, 0) :: (10, .aload_n 0, 1, 0, 0, 0) :: (11, .iload_n 2, 1, 0, 0, 0) :: (12, .invokevirtual 65, 3, 20, 2, 2) :: k_19_15
def k_19_0 : List CE := (0, .iload_n 1, 1, 0, 0, 0) :: (1, .istore_n 2, 1, 0, 0, 0) :: k_19_2
/-- PageInterpreter$Reader.signAt(I)I -/
def k_20_29 : List CE := (29, .ireturn, 1, 0, 0, 0) :: []
def k_20_28 : List CE := (28, .iconst 0, 1, 0, 0, 0) :: k_20_29
def k_20_0 : List CE := (0, .iload_n 1, 1, 0, 0, 0) :: (1, .ifCond .lt 27, 3, 0, 0, 0) :: (4, .iload_n 1, 1, 0, 0, 0) :: (5, .aload_n 0, 1, 0, 0, 0) :: (6, .getfield 35, 3, 1, 0, 5) :: (9, .if_icmp .ge 19, 3, 0, 0, 0) :: (12, .iload_n 1, 1, 0, 0, 0) :: (13, .sipush 160, 3, 0, 0, 0) :: (16, .if_icmp .ge 12, 3, 0, 0, 0) :: (19, .aload_n 0, 1, 0, 0, 0) :: (20, .getfield 9, 3, 1, 2, 0) :: (23, .iload_n 1, 1, 0, 0, 0) :: (24, .iaload, 1, 0, 0, 0) :: (25, .goto 4, 3, 0, 0, 0) :: k_20_28
/-- PageInterpreter$Reader.findEnd(I)I -/
def k_21_101 : List CE := (101, .iload_n 3, 1, 0, 0, 0) :: (102, .ireturn, 1, 0, 0, 0) :: []
def k_21_92 : List CE := (92, .ifCond .eq 9, 3, 0, 0, 0) :: (95, .iinc 3 1, 3, 0, 0, 0) :: (98, .goto (-22), 3, 0, 0, 0) :: k_21_101
def k_21_89 : List CE := (89, .invokestatic 72, 3, 24, 1, 0) :: k_21_92
def k_21_76 : List CE := (76, .iload_n 3, 1, 0, 0, 0) :: (77, .aload_n 0, 1, 0, 0, 0) :: (78, .getfield 35, 3, 1, 0, 5) :: (81, .if_icmp .ge 20, 3, 0, 0, 0) :: (84, .aload_n 0, 1, 0, 0, 0) :: (85, .iload_n 3, 1, 0, 0, 0) :: (86, .invokevirtual 65, 3, 20, 2, 2) :: k_21_89
def k_21_73 : List CE := (73, .ifCond .eq 28, 3, 0, 0, 0) :: k_21_76
def k_21_69 : List CE := (69, .iload_n 2, 1, 0, 0, 0) :: (70, .invokestatic 72, 3, 24, 1, 0) :: k_21_73
def k_21_60 : List CE := (60, .ifCond .eq 41, 3, 0, 0, 0) :: (63, .iinc 3 1, 3, 0, 0, 0) :: (66, .goto (-22), 3, 0, 0, 0) :: k_21_69
def k_21_57 : List CE := (57, .invokestatic 68, 3, 22, 1, 0) :: k_21_60
def k_21_44 : List CE := (44, .iload_n 3, 1, 0, 0, 0) :: (45, .aload_n 0, 1, 0, 0, 0) :: (46, .getfield 35, 3, 1, 0, 5) :: (49, .if_icmp .ge 52, 3, 0, 0, 0) :: (52, .aload_n 0, 1, 0, 0, 0) :: (53, .iload_n 3, 1, 0, 0, 0) :: (54, .invokevirtual 65, 3, 20, 2, 2) :: k_21_57
def k_21_41 : List CE := (41, .ifCond .eq 28, 3, 0, 0, 0) :: k_21_44
def k_21_33 : List CE := (33, .iload_n 1, 1, 0, 0, 0) :: (34, .iconst 1, 1, 0, 0, 0) :: (35, .iadd, 1, 0, 0, 0) :: (36, .istore_n 3, 1, 0, 0, 0) :: (37, .iload_n 2, 1, 0, 0, 0) :: (38, .invokestatic 68, 3, 22, 1, 0) :: k_21_41
def k_21_32 : List CE := (32, .ireturn, 1, 0, 0, 0) :: k_21_33
def k_21_28 : List CE := (28, .aload_n 0, 1, 0, 0, 0) :: (29, .getfield 35, 3, 1, 0, 5) :: k_21_32
def k_21_5 : List CE := (5, .istore_n 2, 1, 0, 0, 0) :: (6, .iload_n 2, 1, 0, 0, 0) :: (7, .bipush 36, 2, 0, 0, 0) :: (9, .if_icmp .ne 24, 3, 0, 0, 0) :: (12, .iload_n 1, 1, 0, 0, 0) :: (13, .iconst 1, 1, 0, 0, 0) :: (14, .iadd, 1, 0, 0, 0) :: (15, .aload_n 0, 1, 0, 0, 0) :: (16, .getfield 35, 3, 1, 0, 5) :: (19, .if_icmp .ge 9, 3, 0, 0, 0) :: (22, .iload_n 1, 1, 0, 0, 0) :: (23, .iconst 2, 1, 0, 0, 0) :: (24, .iadd, 1, 0, 0, 0) :: (25, .goto 7, 3, 0, 0, 0) :: k_21_28
def k_21_0 : List CE := (0, .aload_n 0, 1, 0, 0, 0) :: (1, .iload_n 1, 1, 0, 0, 0) :: (2, .invokevirtual 65, 3, 20, 2, 2) :: k_21_5
/-- PageInterpreter$Reader.isNumberSign(I)Z -/
def k_22_24 : List CE := (24, .ireturn, 1, 1, 0, 0) :: []
def k_22_23 : List CE := (23, .iconst 0, 1, 0, 0, 0) :: k_22_24
def k_22_19 : List CE := (19, .iconst 1, 1, 0, 0, 0) :: (20, .goto 4, 3, 0, 0, 0) :: k_22_23
def k_22_4 : List CE := (4, .ifCond .ne 15, 3, 0, 0, 0) :: (7, .iload_n 0, 1, 0, 0, 0) :: (8, .bipush 45, 2, 0, 0, 0) :: (10, .if_icmp .eq 9, 3, 0, 0, 0) :: (13, .iload_n 0, 1, 0, 0, 0) :: (14, .bipush 47, 2, 0, 0, 0) :: (16, .if_icmp .ne 7, 3, 0, 0, 0) :: k_22_19
def k_22_0 : List CE := (0, .iload_n 0, 1, 0, 0, 0) :: (1, .invokestatic 75, 3, 23, 1, 0) :: k_22_4
/-- PageInterpreter$Reader.isDigit(I)Z -/
def k_23_17 : List CE := (17, .ireturn, 1, 1, 0, 0) :: []
def k_23_16 : List CE := (16, .iconst 0, 1, 0, 0, 0) :: k_23_17
def k_23_0 : List CE := (0, .iload_n 0, 1, 0, 0, 0) :: (1, .bipush 48, 2, 0, 0, 0) :: (3, .if_icmp .lt 13, 3, 0, 0, 0) :: (6, .iload_n 0, 1, 0, 0, 0) :: (7, .bipush 57, 2, 0, 0, 0) :: (9, .if_icmp .gt 7, 3, 0, 0, 0) :: (12, .iconst 1, 1, 0, 0, 0) :: (13, .goto 4, 3, 0, 0, 0) :: k_23_16
/-- PageInterpreter$Reader.isSmallLetter(I)Z -/
def k_24_17 : List CE := (17, .ireturn, 1, 1, 0, 0) :: []
def k_24_16 : List CE := (16, .iconst 0, 1, 0, 0, 0) :: k_24_17
def k_24_0 : List CE := (0, .iload_n 0, 1, 0, 0, 0) :: (1, .bipush 97, 2, 0, 0, 0) :: (3, .if_icmp .lt 13, 3, 0, 0, 0) :: (6, .iload_n 0, 1, 0, 0, 0) :: (7, .bipush 122, 2, 0, 0, 0) :: (9, .if_icmp .gt 7, 3, 0, 0, 0) :: (12, .iconst 1, 1, 0, 0, 0) :: (13, .goto 4, 3, 0, 0, 0) :: k_24_16
/-- PageInterpreter$Reader.readToken(II)Z -/
def k_25_209 : List CE := (209, .ireturn, 1, 1, 0, 0) :: []
def k_25_208 : List CE := (208, .iconst 0, 1, 0, 0, 0) :: k_25_209
def k_25_201 : List CE := (201, .ifCond .eq 7, 3, 0, 0, 0) :: (204, .iconst 1, 1, 0, 0, 0) :: (205, .goto 4, 3, 0, 0, 0) :: k_25_208
def k_25_166 : List CE := (166, .astore 4, 2, 0, 0, 0) :: (168, .aload_n 0, 1, 0, 0, 0) :: (169, .getfield 17, 3, 1, 2, 1) :: (172, .aload_n 0, 1, 0, 0, 0) :: (173, .getfield 41, 3, 1, 0, 6) :: (176, .aload 4, 2, 0, 0, 0) :: (178, .aastore, 1, 0, 0, 0) :: (179, .aload 4, 2, 0, 0, 0) :: (181, .ifnull 27, 3, 0, 0, 0) :: (184, .aload_n 0, 1, 0, 0, 0) :: (185, .getfield 31, 3, 1, 2, 4) :: (188, .aload 4, 2, 0, 0, 0) :: (190, .aload_n 0, 1, 0, 0, 0) :: (191, .getfield 41, 3, 1, 0, 6) :: (194, .aload_n 0, 1, 0, 0, 0) :: (195, .getfield 25, 3, 1, 2, 3) :: (198, .invokevirtual 103, 3, 41, 4, 3) :: k_25_201
def k_25_160 : List CE := (160, .aload_n 0, 1, 0, 0, 0) :: (161, .iload_n 1, 1, 0, 0, 0) :: (162, .iload_n 2, 1, 0, 0, 0) :: (163, .invokevirtual 99, 3, 32, 3, 2) :: k_25_166
def k_25_159 : List CE := (159, .ireturn, 1, 1, 0, 0) :: k_25_160
def k_25_146 : List CE := (146, .lastore, 1, 0, 0, 0) :: (147, .aload_n 0, 1, 0, 0, 0) :: (148, .getfield 21, 3, 1, 2, 2) :: (151, .aload_n 0, 1, 0, 0, 0) :: (152, .getfield 41, 3, 1, 0, 6) :: (155, .laload, 1, 0, 0, 0) :: (156, .invokestatic 95, 3, 31, 1, 0) :: k_25_159
def k_25_129 : List CE := (129, .ifCond .eq 31, 3, 0, 0, 0) :: (132, .aload_n 0, 1, 0, 0, 0) :: (133, .getfield 21, 3, 1, 2, 2) :: (136, .aload_n 0, 1, 0, 0, 0) :: (137, .getfield 41, 3, 1, 0, 6) :: (140, .aload_n 0, 1, 0, 0, 0) :: (141, .iload_n 1, 1, 0, 0, 0) :: (142, .iload_n 2, 1, 0, 0, 0) :: (143, .invokevirtual 91, 3, 28, 3, 2) :: k_25_146
def k_25_125 : List CE := (125, .iload_n 3, 1, 0, 0, 0) :: (126, .invokestatic 68, 3, 22, 1, 0) :: k_25_129
def k_25_124 : List CE := (124, .ireturn, 1, 1, 0, 0) :: k_25_125
def k_25_123 : List CE := (123, .iconst 0, 1, 0, 0, 0) :: k_25_124
def k_25_106 : List CE := (106, .ifCond .eq 17, 3, 0, 0, 0) :: (109, .aload_n 0, 1, 0, 0, 0) :: (110, .getfield 31, 3, 1, 2, 4) :: (113, .getfield 87, 3, 2, 3, 5) :: (116, .ifCond .ne 7, 3, 0, 0, 0) :: (119, .iconst 1, 1, 0, 0, 0) :: (120, .goto 4, 3, 0, 0, 0) :: k_25_123
def k_25_100 : List CE := (100, .bipush 65, 2, 0, 0, 0) :: (102, .isub, 1, 0, 0, 0) :: (103, .invokestatic 84, 3, 27, 1, 0) :: k_25_106
def k_25_85 : List CE := (85, .lastore, 1, 0, 0, 0) :: (86, .iload_n 2, 1, 0, 0, 0) :: (87, .iload_n 1, 1, 0, 0, 0) :: (88, .isub, 1, 0, 0, 0) :: (89, .iconst 2, 1, 0, 0, 0) :: (90, .if_icmp .ne 33, 3, 0, 0, 0) :: (93, .aload_n 0, 1, 0, 0, 0) :: (94, .iload_n 1, 1, 0, 0, 0) :: (95, .iconst 1, 1, 0, 0, 0) :: (96, .iadd, 1, 0, 0, 0) :: (97, .invokevirtual 65, 3, 20, 2, 2) :: k_25_100
def k_25_79 : List CE := (79, .bipush 65, 2, 0, 0, 0) :: (81, .isub, 1, 0, 0, 0) :: (82, .invokestatic 80, 3, 26, 1, 0) :: k_25_85
def k_25_24 : List CE := (24, .istore_n 3, 1, 0, 0, 0) :: (25, .aload_n 0, 1, 0, 0, 0) :: (26, .getfield 17, 3, 1, 2, 1) :: (29, .aload_n 0, 1, 0, 0, 0) :: (30, .getfield 41, 3, 1, 0, 6) :: (33, .aconst_null, 1, 0, 0, 0) :: (34, .aastore, 1, 0, 0, 0) :: (35, .aload_n 0, 1, 0, 0, 0) :: (36, .getfield 21, 3, 1, 2, 2) :: (39, .aload_n 0, 1, 0, 0, 0) :: (40, .getfield 41, 3, 1, 0, 6) :: (43, .lconst 1, 1, 0, 0, 0) :: (44, .lastore, 1, 0, 0, 0) :: (45, .aload_n 0, 1, 0, 0, 0) :: (46, .getfield 25, 3, 1, 2, 3) :: (49, .aload_n 0, 1, 0, 0, 0) :: (50, .getfield 41, 3, 1, 0, 6) :: (53, .aload_n 0, 1, 0, 0, 0) :: (54, .getfield 41, 3, 1, 0, 6) :: (57, .iastore, 1, 0, 0, 0) :: (58, .iload_n 3, 1, 0, 0, 0) :: (59, .bipush 36, 2, 0, 0, 0) :: (61, .if_icmp .ne 64, 3, 0, 0, 0) :: (64, .aload_n 0, 1, 0, 0, 0) :: (65, .getfield 21, 3, 1, 2, 2) :: (68, .aload_n 0, 1, 0, 0, 0) :: (69, .getfield 41, 3, 1, 0, 6) :: (72, .aload_n 0, 1, 0, 0, 0) :: (73, .iload_n 1, 1, 0, 0, 0) :: (74, .iconst 1, 1, 0, 0, 0) :: (75, .iadd, 1, 0, 0, 0) :: (76, .invokevirtual 65, 3, 20, 2, 2) :: k_25_79
def k_25_19 : List CE := (19, .aload_n 0, 1, 0, 0, 0) :: (20, .iload_n 1, 1, 0, 0, 0) :: (21, .invokevirtual 65, 3, 20, 2, 2) :: k_25_24
def k_25_17 : List CE := (17, .iconst 0, 1, 0, 0, 0) :: (18, .ireturn, 1, 1, 0, 0) :: k_25_19
def k_25_0 : List CE := (0, .aload_n 0, 1, 0, 0, 0) :: (1, .getfield 41, 3, 1, 0, 6) :: (4, .ifCond .lt 13, 3, 0, 0, 0) :: (7, .aload_n 0, 1, 0, 0, 0) :: (8, .getfield 41, 3, 1, 0, 6) :: (11, .sipush 160, 3, 0, 0, 0) :: (14, .if_icmp .lt 5, 3, 0, 0, 0) :: k_25_17
/-- PageInterpreter$Fraction.nameOf(I)J -/
def k_26_0 : List CE := (0, .iload_n 0, 1, 0, 0, 0) :: (1, .i2l, 1, 0, 0, 0) :: (2, .bipush 32, 2, 0, 0, 0) :: (4, .lshl, 1, 0, 0, 0) :: (5, .lreturn, 1, 0, 0, 0) :: []
/-- PageInterpreter.isName(I)Z -/
def k_27_7 : List CE := (7, .ireturn, 1, 1, 0, 0) :: []
def k_27_0 : List CE := (0, .iload_n 0, 1, 0, 0, 0) :: (1, .iconst 0, 1, 0, 0, 0) :: (2, .bipush 7, 2, 0, 0, 0) :: (4, .invokestatic 96, 3, 15, 3, 0) :: k_27_7
/-- PageInterpreter$Reader.readNumber(II)J -/
def k_28_184 : List CE := (184, .lreturn, 1, 0, 0, 0) :: []
def k_28_178 : List CE := (178, .iload 8, 2, 0, 0, 0) :: (180, .i2l, 1, 0, 0, 0) :: (181, .invokestatic 113, 3, 30, 2, 0) :: k_28_184
def k_28_175 : List CE := (175, .iload 6, 2, 0, 0, 0) :: (177, .i2l, 1, 0, 0, 0) :: k_28_178
def k_28_164 : List CE := (164, .iload_n 3, 1, 0, 0, 0) :: (165, .ifCond .eq 10, 3, 0, 0, 0) :: (168, .iload 6, 2, 0, 0, 0) :: (170, .ineg, 1, 0, 0, 0) :: (171, .i2l, 1, 0, 0, 0) :: (172, .goto 6, 3, 0, 0, 0) :: k_28_175
def k_28_150 : List CE := (150, .istore 8, 2, 0, 0, 0) :: (152, .iload 8, 2, 0, 0, 0) :: (154, .iconst 1, 1, 0, 0, 0) :: (155, .if_icmp .ge 9, 3, 0, 0, 0) :: (158, .ldc2_w 107, 3, 0, 0, (-1)) :: (161, .goto 23, 3, 0, 0, 0) :: k_28_164
def k_28_143 : List CE := (143, .aload_n 0, 1, 0, 0, 0) :: (144, .iload 4, 2, 0, 0, 0) :: (146, .iload_n 2, 1, 0, 0, 0) :: (147, .invokevirtual 109, 3, 29, 3, 2) :: k_28_150
def k_28_133 : List CE := (133, .iload 4, 2, 0, 0, 0) :: (135, .iload_n 2, 1, 0, 0, 0) :: (136, .if_icmp .ne 7, 3, 0, 0, 0) :: (139, .iconst 1, 1, 0, 0, 0) :: (140, .goto 10, 3, 0, 0, 0) :: k_28_143
def k_28_129 : List CE := (129, .ldc2_w 107, 3, 0, 0, (-1)) :: (132, .lreturn, 1, 0, 0, 0) :: k_28_133
def k_28_110 : List CE := (110, .istore 7, 2, 0, 0, 0) :: (112, .iload 5, 2, 0, 0, 0) :: (114, .iconst 1, 1, 0, 0, 0) :: (115, .if_icmp .lt 14, 3, 0, 0, 0) :: (118, .iload 5, 2, 0, 0, 0) :: (120, .iconst 3, 1, 0, 0, 0) :: (121, .if_icmp .gt 8, 3, 0, 0, 0) :: (124, .iload 7, 2, 0, 0, 0) :: (126, .ifCond .eq 7, 3, 0, 0, 0) :: k_28_129
def k_28_109 : List CE := (109, .iconst 0, 1, 0, 0, 0) :: k_28_110
def k_28_100 : List CE := (100, .bipush 48, 2, 0, 0, 0) :: (102, .if_icmp .ne 7, 3, 0, 0, 0) :: (105, .iconst 1, 1, 0, 0, 0) :: (106, .goto 4, 3, 0, 0, 0) :: k_28_109
def k_28_85 : List CE := (85, .iload 5, 2, 0, 0, 0) :: (87, .iconst 1, 1, 0, 0, 0) :: (88, .if_icmp .le 21, 3, 0, 0, 0) :: (91, .aload_n 0, 1, 0, 0, 0) :: (92, .iload 4, 2, 0, 0, 0) :: (94, .iload 5, 2, 0, 0, 0) :: (96, .isub, 1, 0, 0, 0) :: (97, .invokevirtual 65, 3, 20, 2, 2) :: k_28_100
def k_28_70 : List CE := (70, .iadd, 1, 0, 0, 0) :: (71, .bipush 48, 2, 0, 0, 0) :: (73, .isub, 1, 0, 0, 0) :: (74, .istore 6, 2, 0, 0, 0) :: (76, .iinc 4 1, 3, 0, 0, 0) :: (79, .iinc 5 1, 3, 0, 0, 0) :: (82, .goto (-47), 3, 0, 0, 0) :: k_28_85
def k_28_56 : List CE := (56, .ifCond .eq 29, 3, 0, 0, 0) :: (59, .iload 6, 2, 0, 0, 0) :: (61, .bipush 10, 2, 0, 0, 0) :: (63, .imul, 1, 0, 0, 0) :: (64, .aload_n 0, 1, 0, 0, 0) :: (65, .iload 4, 2, 0, 0, 0) :: (67, .invokevirtual 65, 3, 20, 2, 2) :: k_28_70
def k_28_53 : List CE := (53, .invokestatic 75, 3, 23, 1, 0) :: k_28_56
def k_28_35 : List CE := (35, .iload 4, 2, 0, 0, 0) :: (37, .iload_n 2, 1, 0, 0, 0) :: (38, .if_icmp .ge 47, 3, 0, 0, 0) :: (41, .iload 5, 2, 0, 0, 0) :: (43, .iconst 4, 1, 0, 0, 0) :: (44, .if_icmp .ge 41, 3, 0, 0, 0) :: (47, .aload_n 0, 1, 0, 0, 0) :: (48, .iload 4, 2, 0, 0, 0) :: (50, .invokevirtual 65, 3, 20, 2, 2) :: k_28_53
def k_28_27 : List CE := (27, .istore 4, 2, 0, 0, 0) :: (29, .iconst 0, 1, 0, 0, 0) :: (30, .istore 5, 2, 0, 0, 0) :: (32, .iconst 0, 1, 0, 0, 0) :: (33, .istore 6, 2, 0, 0, 0) :: k_28_35
def k_28_26 : List CE := (26, .iload_n 1, 1, 0, 0, 0) :: k_28_27
def k_28_15 : List CE := (15, .istore_n 3, 1, 0, 0, 0) :: (16, .iload_n 3, 1, 0, 0, 0) :: (17, .ifCond .eq 9, 3, 0, 0, 0) :: (20, .iload_n 1, 1, 0, 0, 0) :: (21, .iconst 1, 1, 0, 0, 0) :: (22, .iadd, 1, 0, 0, 0) :: (23, .goto 4, 3, 0, 0, 0) :: k_28_26
def k_28_14 : List CE := (14, .iconst 0, 1, 0, 0, 0) :: k_28_15
def k_28_5 : List CE := (5, .bipush 45, 2, 0, 0, 0) :: (7, .if_icmp .ne 7, 3, 0, 0, 0) :: (10, .iconst 1, 1, 0, 0, 0) :: (11, .goto 4, 3, 0, 0, 0) :: k_28_14
def k_28_0 : List CE := (0, .aload_n 0, 1, 0, 0, 0) :: (1, .iload_n 1, 1, 0, 0, 0) :: (2, .invokevirtual 65, 3, 20, 2, 2) :: k_28_5
/-- PageInterpreter$Reader.readDenominator(II)I -/
def k_29_55 : List CE := (55, .ireturn, 1, 0, 0, 0) :: []
def k_29_54 : List CE := (54, .iconst 0, 1, 0, 0, 0) :: k_29_55
def k_29_43 : List CE := (43, .istore 4, 2, 0, 0, 0) :: (45, .iload 4, 2, 0, 0, 0) :: (47, .ifCond .eq 7, 3, 0, 0, 0) :: (50, .iload_n 3, 1, 0, 0, 0) :: (51, .goto 4, 3, 0, 0, 0) :: k_29_54
def k_29_42 : List CE := (42, .iconst 0, 1, 0, 0, 0) :: k_29_43
def k_29_35 : List CE := (35, .ifCond .eq 7, 3, 0, 0, 0) :: (38, .iconst 1, 1, 0, 0, 0) :: (39, .goto 4, 3, 0, 0, 0) :: k_29_42
def k_29_16 : List CE := (16, .bipush 47, 2, 0, 0, 0) :: (18, .if_icmp .ne 24, 3, 0, 0, 0) :: (21, .iload_n 1, 1, 0, 0, 0) :: (22, .iconst 2, 1, 0, 0, 0) :: (23, .iadd, 1, 0, 0, 0) :: (24, .iload_n 2, 1, 0, 0, 0) :: (25, .if_icmp .ne 17, 3, 0, 0, 0) :: (28, .iload_n 3, 1, 0, 0, 0) :: (29, .iconst 2, 1, 0, 0, 0) :: (30, .bipush 9, 2, 0, 0, 0) :: (32, .invokestatic 117, 3, 15, 3, 0) :: k_29_35
def k_29_7 : List CE := (7, .bipush 48, 2, 0, 0, 0) :: (9, .isub, 1, 0, 0, 0) :: (10, .istore_n 3, 1, 0, 0, 0) :: (11, .aload_n 0, 1, 0, 0, 0) :: (12, .iload_n 1, 1, 0, 0, 0) :: (13, .invokevirtual 65, 3, 20, 2, 2) :: k_29_16
def k_29_0 : List CE := (0, .aload_n 0, 1, 0, 0, 0) :: (1, .iload_n 1, 1, 0, 0, 0) :: (2, .iconst 1, 1, 0, 0, 0) :: (3, .iadd, 1, 0, 0, 0) :: (4, .invokevirtual 65, 3, 20, 2, 2) :: k_29_7
/-- PageInterpreter$Fraction.lowest(JJ)J -/
def k_30_121 : List CE := (121, .lload 8, 2, 0, 0, 0) :: (123, .bipush 32, 2, 0, 0, 0) :: (125, .lshl, 1, 0, 0, 0) :: (126, .lload 10, 2, 0, 0, 0) :: (128, .lor, 1, 0, 0, 0) :: (129, .lreturn, 1, 0, 0, 0) :: []
def k_30_117 : List CE := (117, .ldc2_w 16, 3, 0, 0, (-1)) :: (120, .lreturn, 1, 0, 0, 0) :: k_30_121
def k_30_90 : List CE := (90, .lload 8, 2, 0, 0, 0) :: (92, .ldc2_w 18, 3, 0, 0, 1000000) :: (95, .lcmp, 1, 0, 0, 0) :: (96, .ifCond .gt 21, 3, 0, 0, 0) :: (99, .lload 8, 2, 0, 0, 0) :: (101, .ldc2_w 20, 3, 0, 0, (-1000000)) :: (104, .lcmp, 1, 0, 0, 0) :: (105, .ifCond .lt 12, 3, 0, 0, 0) :: (108, .lload 10, 2, 0, 0, 0) :: (110, .ldc2_w 18, 3, 0, 0, 1000000) :: (113, .lcmp, 1, 0, 0, 0) :: (114, .ifCond .le 7, 3, 0, 0, 0) :: k_30_117
def k_30_61 : List CE := (61, .lload_n 0, 1, 0, 0, 0) :: (62, .lload 4, 2, 0, 0, 0) :: (64, .ldiv, 1, 0, 0, 0) :: (65, .lstore 8, 2, 0, 0, 0) :: (67, .lload_n 2, 1, 0, 0, 0) :: (68, .lload 4, 2, 0, 0, 0) :: (70, .ldiv, 1, 0, 0, 0) :: (71, .lstore 10, 2, 0, 0, 0) :: (73, .lload 10, 2, 0, 0, 0) :: (75, .lconst 0, 1, 0, 0, 0) :: (76, .lcmp, 1, 0, 0, 0) :: (77, .ifCond .ge 13, 3, 0, 0, 0) :: (80, .lload 8, 2, 0, 0, 0) :: (82, .lneg, 1, 0, 0, 0) :: (83, .lstore 8, 2, 0, 0, 0) :: (85, .lload 10, 2, 0, 0, 0) :: (87, .lneg, 1, 0, 0, 0) :: (88, .lstore 10, 2, 0, 0, 0) :: k_30_90
def k_30_57 : List CE := (57, .ldc2_w 16, 3, 0, 0, (-1)) :: (60, .lreturn, 1, 0, 0, 0) :: k_30_61
def k_30_44 : List CE := (44, .lload_n 2, 1, 0, 0, 0) :: (45, .lconst 0, 1, 0, 0, 0) :: (46, .lcmp, 1, 0, 0, 0) :: (47, .ifCond .eq 10, 3, 0, 0, 0) :: (50, .lload 4, 2, 0, 0, 0) :: (52, .lconst 0, 1, 0, 0, 0) :: (53, .lcmp, 1, 0, 0, 0) :: (54, .ifCond .ne 7, 3, 0, 0, 0) :: k_30_57
def k_30_9 : List CE := (9, .iload 8, 2, 0, 0, 0) :: (11, .bipush 100, 2, 0, 0, 0) :: (13, .if_icmp .ge 31, 3, 0, 0, 0) :: (16, .lload 6, 2, 0, 0, 0) :: (18, .lconst 0, 1, 0, 0, 0) :: (19, .lcmp, 1, 0, 0, 0) :: (20, .ifCond .eq 24, 3, 0, 0, 0) :: (23, .lload 4, 2, 0, 0, 0) :: (25, .lload 6, 2, 0, 0, 0) :: (27, .lrem, 1, 0, 0, 0) :: (28, .lstore 9, 2, 0, 0, 0) :: (30, .lload 6, 2, 0, 0, 0) :: (32, .lstore 4, 2, 0, 0, 0) :: (34, .lload 9, 2, 0, 0, 0) :: (36, .lstore 6, 2, 0, 0, 0) :: (38, .iinc 8 1, 3, 0, 0, 0) :: (41, .goto (-32), 3, 0, 0, 0) :: k_30_44
def k_30_0 : List CE := (0, .lload_n 2, 1, 0, 0, 0) :: (1, .lstore 4, 2, 0, 0, 0) :: (3, .lload_n 0, 1, 0, 0, 0) :: (4, .lstore 6, 2, 0, 0, 0) :: (6, .iconst 0, 1, 0, 0, 0) :: (7, .istore 8, 2, 0, 0, 0) :: k_30_9
/-- PageInterpreter$Fraction.isNumber(J)Z -/
def k_31_10 : List CE := (10, .ireturn, 1, 1, 0, 0) :: []
def k_31_9 : List CE := (9, .iconst 0, 1, 0, 0, 0) :: k_31_10
def k_31_0 : List CE := (0, .lload_n 0, 1, 0, 0, 0) :: (1, .l2i, 1, 0, 0, 0) :: (2, .ifCond .le 7, 3, 0, 0, 0) :: (5, .iconst 1, 1, 0, 0, 0) :: (6, .goto 4, 3, 0, 0, 0) :: k_31_9
/-- PageInterpreter$Reader.findOperator(II)LPageInterpreter$Operator; -/
def k_32_39 : List CE := (39, .aconst_null, 1, 0, 0, 0) :: (40, .areturn, 1, 0, 0, 0) :: []
def k_32_33 : List CE := (33, .iinc 3 1, 3, 0, 0, 0) :: (36, .goto (-34), 3, 0, 0, 0) :: k_32_39
def k_32_24 : List CE := (24, .ifCond .eq 9, 3, 0, 0, 0) :: (27, .getstatic 121, 3, 0, 2, 0) :: (30, .iload_n 3, 1, 0, 0, 0) :: (31, .aaload, 1, 0, 0, 0) :: (32, .areturn, 1, 0, 0, 0) :: k_32_33
def k_32_2 : List CE := (2, .iload_n 3, 1, 0, 0, 0) :: (3, .getstatic 121, 3, 0, 2, 0) :: (6, .arraylength, 1, 0, 0, 0) :: (7, .if_icmp .ge 32, 3, 0, 0, 0) :: (10, .aload_n 0, 1, 0, 0, 0) :: (11, .getstatic 121, 3, 0, 2, 0) :: (14, .iload_n 3, 1, 0, 0, 0) :: (15, .aaload, 1, 0, 0, 0) :: (16, .getfield 124, 3, 40, 2, 1) :: (19, .iload_n 1, 1, 0, 0, 0) :: (20, .iload_n 2, 1, 0, 0, 0) :: (21, .invokevirtual 128, 3, 33, 4, 2) :: k_32_24
def k_32_0 : List CE := (0, .iconst 0, 1, 0, 0, 0) :: (1, .istore_n 3, 1, 0, 0, 0) :: k_32_2
/-- PageInterpreter$Reader.isWord(Ljava/lang/String;II)Z -/
def k_33_49 : List CE := (49, .iconst 1, 1, 0, 0, 0) :: (50, .ireturn, 1, 1, 0, 0) :: []
def k_33_43 : List CE := (43, .iinc 4 1, 3, 0, 0, 0) :: (46, .goto (-31), 3, 0, 0, 0) :: k_33_49
def k_33_38 : List CE := (38, .if_icmp .eq 5, 3, 0, 0, 0) :: (41, .iconst 0, 1, 0, 0, 0) :: (42, .ireturn, 1, 1, 0, 0) :: k_33_43
def k_33_30 : List CE := (30, .aload_n 0, 1, 0, 0, 0) :: (31, .iload_n 2, 1, 0, 0, 0) :: (32, .iload 4, 2, 0, 0, 0) :: (34, .iadd, 1, 0, 0, 0) :: (35, .invokevirtual 65, 3, 20, 2, 2) :: k_33_38
def k_33_21 : List CE := (21, .if_icmp .ge 28, 3, 0, 0, 0) :: (24, .aload_n 1, 1, 0, 0, 0) :: (25, .iload 4, 2, 0, 0, 0) :: (27, .invokevirtual 137, 3, 36, 2, 42) :: k_33_30
def k_33_15 : List CE := (15, .iload 4, 2, 0, 0, 0) :: (17, .aload_n 1, 1, 0, 0, 0) :: (18, .invokevirtual 132, 3, 34, 1, 42) :: k_33_21
def k_33_12 : List CE := (12, .iconst 0, 1, 0, 0, 0) :: (13, .istore 4, 2, 0, 0, 0) :: k_33_15
def k_33_4 : List CE := (4, .iload_n 3, 1, 0, 0, 0) :: (5, .iload_n 2, 1, 0, 0, 0) :: (6, .isub, 1, 0, 0, 0) :: (7, .if_icmp .eq 5, 3, 0, 0, 0) :: (10, .iconst 0, 1, 0, 0, 0) :: (11, .ireturn, 1, 1, 0, 0) :: k_33_12
def k_33_0 : List CE := (0, .aload_n 1, 1, 0, 0, 0) :: (1, .invokevirtual 132, 3, 34, 1, 42) :: k_33_4
/-- java/lang/String.length()I -/
def k_34_9 : List CE := (9, .ishr, 1, 0, 0, 0) :: (10, .ireturn, 1, 0, 0, 0) :: []
def k_34_0 : List CE := (0, .aload_n 0, 1, 0, 0, 0) :: (1, .getfield 9, 3, 41, 2, 0) :: (4, .arraylength, 1, 0, 0, 0) :: (5, .aload_n 0, 1, 0, 0, 0) :: (6, .invokevirtual 335, 3, 35, 1, 42) :: k_34_9
/-- java/lang/String.coder()B -/
def k_35_14 : List CE := (14, .ireturn, 1, 3, 0, 0) :: []
def k_35_13 : List CE := (13, .iconst 1, 1, 0, 0, 0) :: k_35_14
def k_35_0 : List CE := (0, .getstatic 38, 3, 0, 0, 1) :: (3, .ifCond .eq 10, 3, 0, 0, 0) :: (6, .aload_n 0, 1, 0, 0, 0) :: (7, .getfield 15, 3, 41, 0, 1) :: (10, .goto 4, 3, 0, 0, 0) :: k_35_13
/-- java/lang/String.charAt(I)C -/
def k_36_16 : List CE := (16, .aload_n 0, 1, 0, 0, 0) :: (17, .getfield 9, 3, 41, 2, 0) :: (20, .iload_n 1, 1, 0, 0, 0) :: (21, .invokestatic 498, 3, 0, 0, (-9)) :: (24, .ireturn, 1, 2, 0, 0) :: []
def k_36_15 : List CE := (15, .ireturn, 1, 2, 0, 0) :: k_36_16
def k_36_4 : List CE := (4, .ifCond .eq 12, 3, 0, 0, 0) :: (7, .aload_n 0, 1, 0, 0, 0) :: (8, .getfield 9, 3, 41, 2, 0) :: (11, .iload_n 1, 1, 0, 0, 0) :: (12, .invokestatic 495, 3, 38, 2, 0) :: k_36_15
def k_36_0 : List CE := (0, .aload_n 0, 1, 0, 0, 0) :: (1, .invokevirtual 492, 3, 37, 1, 42) :: k_36_4
/-- java/lang/String.isLatin1()Z -/
def k_37_18 : List CE := (18, .ireturn, 1, 1, 0, 0) :: []
def k_37_17 : List CE := (17, .iconst 0, 1, 0, 0, 0) :: k_37_18
def k_37_0 : List CE := (0, .getstatic 38, 3, 0, 0, 1) :: (3, .ifCond .eq 14, 3, 0, 0, 0) :: (6, .aload_n 0, 1, 0, 0, 0) :: (7, .getfield 15, 3, 41, 0, 1) :: (10, .ifCond .ne 7, 3, 0, 0, 0) :: (13, .iconst 1, 1, 0, 0, 0) :: (14, .goto 4, 3, 0, 0, 0) :: k_37_17
/-- java/lang/StringLatin1.charAt([BI)C -/
def k_38_6 : List CE := (6, .aload_n 0, 1, 0, 0, 0) :: (7, .iload_n 1, 1, 0, 0, 0) :: (8, .baload, 1, 0, 0, 0) :: (9, .sipush 255, 3, 0, 0, 0) :: (12, .iand, 1, 0, 0, 0) :: (13, .i2c, 1, 0, 0, 0) :: (14, .ireturn, 1, 2, 0, 0) :: []
def k_38_0 : List CE := (0, .iload_n 1, 1, 0, 0, 0) :: (1, .aload_n 0, 1, 0, 0, 0) :: (2, .arraylength, 1, 0, 0, 0) :: (3, .invokestatic 9, 3, 39, 2, 0) :: k_38_6
/-- java/lang/String.checkIndex(II)V -/
def k_39_8 : List CE := (8, .pop, 1, 0, 0, 0) :: (9, .return_, 1, 0, 0, 0) :: []
def k_39_0 : List CE := (0, .iload_n 0, 1, 0, 0, 0) :: (1, .iload_n 1, 1, 0, 0, 0) :: (2, .getstatic 1053, 3, 2, 2, 0) :: (5, .invokestatic 1059, 3, 40, 3, 0) :: k_39_8
/-- jdk/internal/util/Preconditions.checkIndex(IILjava/util/function/BiFunction;)I -/
def k_40_16 : List CE := (16, .iload_n 0, 1, 0, 0, 0) :: (17, .ireturn, 1, 0, 0, 0) :: []
def k_40_9 : List CE := (9, .aload_n 2, 1, 0, 0, 0) :: (10, .iload_n 0, 1, 0, 0, 0) :: (11, .iload_n 1, 1, 0, 0, 0) :: (12, .invokestatic 95, 3, 0, 0, (-9)) :: (15, .athrow, 1, 0, 0, 0) :: k_40_16
def k_40_0 : List CE := (0, .iload_n 0, 1, 0, 0, 0) :: (1, .ifCond .lt 8, 3, 0, 0, 0) :: (4, .iload_n 0, 1, 0, 0, 0) :: (5, .iload_n 1, 1, 0, 0, 0) :: (6, .if_icmp .lt 10, 3, 0, 0, 0) :: k_40_9
/-- PageInterpreter$Structure.pass(LPageInterpreter$Operator;I[I)Z -/
def k_41_136 : List CE := (136, .ireturn, 1, 1, 0, 0) :: []
def k_41_131 : List CE := (131, .aload_n 0, 1, 0, 0, 0) :: (132, .aload_n 1, 1, 0, 0, 0) :: (133, .invokevirtual 74, 3, 46, 2, 3) :: k_41_136
def k_41_130 : List CE := (130, .ireturn, 1, 1, 0, 0) :: k_41_131
def k_41_121 : List CE := (121, .aload_n 0, 1, 0, 0, 0) :: (122, .getstatic 71, 3, 17, 2, 0) :: (125, .iload_n 2, 1, 0, 0, 0) :: (126, .aload_n 3, 1, 0, 0, 0) :: (127, .invokevirtual 67, 3, 45, 4, 3) :: k_41_130
def k_41_120 : List CE := (120, .ireturn, 1, 1, 0, 0) :: k_41_121
def k_41_111 : List CE := (111, .aload_n 0, 1, 0, 0, 0) :: (112, .getstatic 63, 3, 3, 2, 0) :: (115, .iload_n 2, 1, 0, 0, 0) :: (116, .aload_n 3, 1, 0, 0, 0) :: (117, .invokevirtual 67, 3, 45, 4, 3) :: k_41_120
def k_41_110 : List CE := (110, .ireturn, 1, 1, 0, 0) :: k_41_111
def k_41_109 : List CE := (109, .iconst 0, 1, 0, 0, 0) :: k_41_110
def k_41_102 : List CE := (102, .ifCond .eq 7, 3, 0, 0, 0) :: (105, .iconst 1, 1, 0, 0, 0) :: (106, .goto 4, 3, 0, 0, 0) :: k_41_109
def k_41_88 : List CE := (88, .aload_n 0, 1, 0, 0, 0) :: (89, .getfield 28, 3, 2, 0, 4) :: (92, .iconst 3, 1, 0, 0, 0) :: (93, .if_icmp .ge 16, 3, 0, 0, 0) :: (96, .aload_n 0, 1, 0, 0, 0) :: (97, .aload_n 1, 1, 0, 0, 0) :: (98, .iload_n 2, 1, 0, 0, 0) :: (99, .invokevirtual 59, 3, 43, 3, 3) :: k_41_102
def k_41_87 : List CE := (87, .ireturn, 1, 1, 0, 0) :: k_41_88
def k_41_86 : List CE := (86, .iconst 0, 1, 0, 0, 0) :: k_41_87
def k_41_79 : List CE := (79, .ifCond .eq 7, 3, 0, 0, 0) :: (82, .iconst 1, 1, 0, 0, 0) :: (83, .goto 4, 3, 0, 0, 0) :: k_41_86
def k_41_64 : List CE := (64, .aload_n 0, 1, 0, 0, 0) :: (65, .getfield 25, 3, 2, 0, 3) :: (68, .bipush 6, 2, 0, 0, 0) :: (70, .if_icmp .ge 16, 3, 0, 0, 0) :: (73, .aload_n 0, 1, 0, 0, 0) :: (74, .aload_n 1, 1, 0, 0, 0) :: (75, .iload_n 2, 1, 0, 0, 0) :: (76, .invokevirtual 59, 3, 43, 3, 3) :: k_41_79
def k_41_33 : List CE := (33, .iaload, 1, 0, 0, 0) :: (34, .tableswitch 97 1 4 #[30, 54, 77, 87], 30, 0, 0, 0) :: k_41_64
def k_41_26 : List CE := (26, .getstatic 50, 3, 1, 2, 0) :: (29, .aload_n 1, 1, 0, 0, 0) :: (30, .invokevirtual 55, 3, 42, 1, 41) :: k_41_33
def k_41_24 : List CE := (24, .iconst 0, 1, 0, 0, 0) :: (25, .ireturn, 1, 1, 0, 0) :: k_41_26
def k_41_17 : List CE := (17, .aload_n 1, 1, 0, 0, 0) :: (18, .getfield 47, 3, 40, 3, 5) :: (21, .ifCond .ne 5, 3, 0, 0, 0) :: k_41_24
def k_41_0 : List CE := (0, .aload_n 0, 1, 0, 0, 0) :: (1, .getfield 34, 3, 2, 3, 5) :: (4, .ifCond .eq 13, 3, 0, 0, 0) :: (7, .aload_n 1, 1, 0, 0, 0) :: (8, .getfield 44, 3, 40, 3, 4) :: (11, .ifCond .ne 15, 3, 0, 0, 0) :: (14, .goto 10, 3, 0, 0, 0) :: k_41_17
/-- java/lang/Enum.ordinal()I -/
def k_42_0 : List CE := (0, .aload_n 0, 1, 0, 0, 0) :: (1, .getfield 7, 3, 40, 0, 0) :: (4, .ireturn, 1, 0, 0, 0) :: []
/-- PageInterpreter$Structure.passOpening(LPageInterpreter$Operator;I)Z -/
def k_43_50 : List CE := (50, .iconst 1, 1, 0, 0, 0) :: (51, .ireturn, 1, 1, 0, 0) :: []
def k_43_14 : List CE := (14, .aload_n 0, 1, 0, 0, 0) :: (15, .getfield 11, 3, 2, 2, 0) :: (18, .aload_n 0, 1, 0, 0, 0) :: (19, .getfield 21, 3, 2, 0, 2) :: (22, .aload_n 1, 1, 0, 0, 0) :: (23, .aastore, 1, 0, 0, 0) :: (24, .aload_n 0, 1, 0, 0, 0) :: (25, .getfield 17, 3, 2, 2, 1) :: (28, .aload_n 0, 1, 0, 0, 0) :: (29, .getfield 21, 3, 2, 0, 2) :: (32, .iload_n 2, 1, 0, 0, 0) :: (33, .iastore, 1, 0, 0, 0) :: (34, .aload_n 0, 1, 0, 0, 0) :: (35, .dup, 1, 0, 0, 0) :: (36, .getfield 21, 3, 2, 0, 2) :: (39, .iconst 1, 1, 0, 0, 0) :: (40, .iadd, 1, 0, 0, 0) :: (41, .putfield 21, 3, 2, 0, 2) :: (44, .aload_n 0, 1, 0, 0, 0) :: (45, .aload_n 1, 1, 0, 0, 0) :: (46, .iconst 1, 1, 0, 0, 0) :: (47, .invokevirtual 78, 3, 44, 3, 3) :: k_43_50
def k_43_0 : List CE := (0, .aload_n 0, 1, 0, 0, 0) :: (1, .getfield 21, 3, 2, 0, 2) :: (4, .aload_n 0, 1, 0, 0, 0) :: (5, .getfield 11, 3, 2, 2, 0) :: (8, .arraylength, 1, 0, 0, 0) :: (9, .if_icmp .lt 5, 3, 0, 0, 0) :: (12, .iconst 0, 1, 0, 0, 0) :: (13, .ireturn, 1, 1, 0, 0) :: k_43_14
/-- PageInterpreter$Structure.countOpen(LPageInterpreter$Operator;I)V -/
def k_44_30 : List CE := (30, .return_, 1, 0, 0, 0) :: []
def k_44_20 : List CE := (20, .aload_n 0, 1, 0, 0, 0) :: (21, .dup, 1, 0, 0, 0) :: (22, .getfield 28, 3, 2, 0, 4) :: (25, .iload_n 2, 1, 0, 0, 0) :: (26, .iadd, 1, 0, 0, 0) :: (27, .putfield 28, 3, 2, 0, 4) :: k_44_30
def k_44_0 : List CE := (0, .aload_n 1, 1, 0, 0, 0) :: (1, .getstatic 63, 3, 3, 2, 0) :: (4, .if_acmp .ne 16, 3, 0, 0, 0) :: (7, .aload_n 0, 1, 0, 0, 0) :: (8, .dup, 1, 0, 0, 0) :: (9, .getfield 25, 3, 2, 0, 3) :: (12, .iload_n 2, 1, 0, 0, 0) :: (13, .iadd, 1, 0, 0, 0) :: (14, .putfield 25, 3, 2, 0, 3) :: (17, .goto 13, 3, 0, 0, 0) :: k_44_20
/-- PageInterpreter$Structure.passClosing(LPageInterpreter$Operator;I[I)Z -/
def k_45_69 : List CE := (69, .iconst 1, 1, 0, 0, 0) :: (70, .ireturn, 1, 1, 0, 0) :: []
def k_45_41 : List CE := (41, .aload_n 0, 1, 0, 0, 0) :: (42, .getfield 17, 3, 2, 2, 1) :: (45, .aload_n 0, 1, 0, 0, 0) :: (46, .getfield 21, 3, 2, 0, 2) :: (49, .iaload, 1, 0, 0, 0) :: (50, .istore 4, 2, 0, 0, 0) :: (52, .iload 4, 2, 0, 0, 0) :: (54, .ifCond .lt 15, 3, 0, 0, 0) :: (57, .iload 4, 2, 0, 0, 0) :: (59, .aload_n 3, 1, 0, 0, 0) :: (60, .arraylength, 1, 0, 0, 0) :: (61, .if_icmp .ge 8, 3, 0, 0, 0) :: (64, .aload_n 3, 1, 0, 0, 0) :: (65, .iload 4, 2, 0, 0, 0) :: (67, .iload_n 2, 1, 0, 0, 0) :: (68, .iastore, 1, 0, 0, 0) :: k_45_69
def k_45_25 : List CE := (25, .aload_n 0, 1, 0, 0, 0) :: (26, .dup, 1, 0, 0, 0) :: (27, .getfield 21, 3, 2, 0, 2) :: (30, .iconst 1, 1, 0, 0, 0) :: (31, .isub, 1, 0, 0, 0) :: (32, .putfield 21, 3, 2, 0, 2) :: (35, .aload_n 0, 1, 0, 0, 0) :: (36, .aload_n 1, 1, 0, 0, 0) :: (37, .iconst (-1), 1, 0, 0, 0) :: (38, .invokevirtual 78, 3, 44, 3, 3) :: k_45_41
def k_45_23 : List CE := (23, .iconst 0, 1, 0, 0, 0) :: (24, .ireturn, 1, 1, 0, 0) :: k_45_25
def k_45_0 : List CE := (0, .aload_n 0, 1, 0, 0, 0) :: (1, .getfield 21, 3, 2, 0, 2) :: (4, .iconst 1, 1, 0, 0, 0) :: (5, .if_icmp .lt 18, 3, 0, 0, 0) :: (8, .aload_n 0, 1, 0, 0, 0) :: (9, .getfield 11, 3, 2, 2, 0) :: (12, .aload_n 0, 1, 0, 0, 0) :: (13, .getfield 21, 3, 2, 0, 2) :: (16, .iconst 1, 1, 0, 0, 0) :: (17, .isub, 1, 0, 0, 0) :: (18, .aaload, 1, 0, 0, 0) :: (19, .aload_n 1, 1, 0, 0, 0) :: (20, .if_acmp .eq 5, 3, 0, 0, 0) :: k_45_23
/-- PageInterpreter$Structure.passInPath(LPageInterpreter$Operator;)Z -/
def k_46_135 : List CE := (135, .iload_n 2, 1, 0, 0, 0) :: (136, .ireturn, 1, 1, 0, 0) :: []
def k_46_132 : List CE := (132, .goto 3, 3, 0, 0, 0) :: k_46_135
def k_46_128 : List CE := (128, .aload_n 0, 1, 0, 0, 0) :: (129, .invokevirtual 31, 3, 18, 1, 3) :: k_46_132
def k_46_119 : List CE := (119, .istore_n 2, 1, 0, 0, 0) :: (120, .aload_n 0, 1, 0, 0, 0) :: (121, .iconst 1, 1, 0, 0, 0) :: (122, .putfield 41, 3, 2, 3, 7) :: (125, .goto 10, 3, 0, 0, 0) :: k_46_128
def k_46_118 : List CE := (118, .iconst 0, 1, 0, 0, 0) :: k_46_119
def k_46_107 : List CE := (107, .aload_n 0, 1, 0, 0, 0) :: (108, .getfield 41, 3, 2, 3, 7) :: (111, .ifCond .ne 7, 3, 0, 0, 0) :: (114, .iconst 1, 1, 0, 0, 0) :: (115, .goto 4, 3, 0, 0, 0) :: k_46_118
def k_46_94 : List CE := (94, .aload_n 0, 1, 0, 0, 0) :: (95, .getfield 38, 3, 2, 3, 6) :: (98, .istore_n 2, 1, 0, 0, 0) :: (99, .aload_n 0, 1, 0, 0, 0) :: (100, .iconst 0, 1, 0, 0, 0) :: (101, .putfield 38, 3, 2, 3, 6) :: (104, .goto 31, 3, 0, 0, 0) :: k_46_107
def k_46_86 : List CE := (86, .aload_n 0, 1, 0, 0, 0) :: (87, .getfield 38, 3, 2, 3, 6) :: (90, .istore_n 2, 1, 0, 0, 0) :: (91, .goto 44, 3, 0, 0, 0) :: k_46_94
def k_46_73 : List CE := (73, .aload_n 0, 1, 0, 0, 0) :: (74, .iconst 1, 1, 0, 0, 0) :: (75, .putfield 34, 3, 2, 3, 5) :: (78, .aload_n 0, 1, 0, 0, 0) :: (79, .iconst 0, 1, 0, 0, 0) :: (80, .putfield 38, 3, 2, 3, 6) :: (83, .goto 52, 3, 0, 0, 0) :: k_46_86
def k_46_60 : List CE := (60, .aload_n 0, 1, 0, 0, 0) :: (61, .iconst 1, 1, 0, 0, 0) :: (62, .putfield 34, 3, 2, 3, 5) :: (65, .aload_n 0, 1, 0, 0, 0) :: (66, .iconst 1, 1, 0, 0, 0) :: (67, .putfield 38, 3, 2, 3, 6) :: (70, .goto 65, 3, 0, 0, 0) :: k_46_73
def k_46_9 : List CE := (9, .iaload, 1, 0, 0, 0) :: (10, .tableswitch 125 5 13 #[50, 63, 76, 84, 97, 97, 118, 118, 118], 50, 0, 0, 0) :: k_46_60
def k_46_0 : List CE := (0, .iconst 1, 1, 0, 0, 0) :: (1, .istore_n 2, 1, 0, 0, 0) :: (2, .getstatic 50, 3, 1, 2, 0) :: (5, .aload_n 1, 1, 0, 0, 0) :: (6, .invokevirtual 55, 3, 42, 1, 41) :: k_46_9
/-- PageInterpreter$Structure.isComplete()Z -/
def k_47_19 : List CE := (19, .ireturn, 1, 1, 0, 0) :: []
def k_47_18 : List CE := (18, .iconst 0, 1, 0, 0, 0) :: k_47_19
def k_47_0 : List CE := (0, .aload_n 0, 1, 0, 0, 0) :: (1, .getfield 21, 3, 2, 0, 2) :: (4, .ifCond .ne 14, 3, 0, 0, 0) :: (7, .aload_n 0, 1, 0, 0, 0) :: (8, .getfield 34, 3, 2, 3, 5) :: (11, .ifCond .ne 7, 3, 0, 0, 0) :: (14, .iconst 1, 1, 0, 0, 0) :: (15, .goto 4, 3, 0, 0, 0) :: k_47_18
/-- PageInterpreter.saveState()V -/
def k_48_29 : List CE := (29, .aload_n 0, 1, 0, 0, 0) :: (30, .dup, 1, 0, 0, 0) :: (31, .getfield 109, 3, 0, 0, 4) :: (34, .iconst 1, 1, 0, 0, 0) :: (35, .iadd, 1, 0, 0, 0) :: (36, .putfield 109, 3, 0, 0, 4) :: (39, .return_, 1, 0, 0, 0) :: []
def k_48_13 : List CE := (13, .aload_n 0, 1, 0, 0, 0) :: (14, .getfield 23, 3, 0, 2, 2) :: (17, .aload_n 0, 1, 0, 0, 0) :: (18, .getfield 109, 3, 0, 0, 4) :: (21, .aaload, 1, 0, 0, 0) :: (22, .aload_n 0, 1, 0, 0, 0) :: (23, .getfield 19, 3, 0, 2, 1) :: (26, .invokevirtual 112, 3, 50, 2, 4) :: k_48_29
def k_48_0 : List CE := (0, .aload_n 0, 1, 0, 0, 0) :: (1, .getfield 109, 3, 0, 0, 4) :: (4, .bipush 6, 2, 0, 0, 0) :: (6, .if_icmp .lt 7, 3, 0, 0, 0) :: (9, .aload_n 0, 1, 0, 0, 0) :: (10, .invokevirtual 179, 3, 49, 1, 1) :: k_48_13
/-- PageInterpreter.dropOldestState()V -/
def k_49_35 : List CE := (35, .aload_n 0, 1, 0, 0, 0) :: (36, .getfield 23, 3, 0, 2, 2) :: (39, .iconst 5, 1, 0, 0, 0) :: (40, .aload_n 1, 1, 0, 0, 0) :: (41, .aastore, 1, 0, 0, 0) :: (42, .aload_n 0, 1, 0, 0, 0) :: (43, .iconst 5, 1, 0, 0, 0) :: (44, .putfield 109, 3, 0, 0, 4) :: (47, .return_, 1, 0, 0, 0) :: []
def k_49_9 : List CE := (9, .iload_n 2, 1, 0, 0, 0) :: (10, .bipush 6, 2, 0, 0, 0) :: (12, .if_icmp .ge 23, 3, 0, 0, 0) :: (15, .aload_n 0, 1, 0, 0, 0) :: (16, .getfield 23, 3, 0, 2, 2) :: (19, .iload_n 2, 1, 0, 0, 0) :: (20, .iconst 1, 1, 0, 0, 0) :: (21, .isub, 1, 0, 0, 0) :: (22, .aload_n 0, 1, 0, 0, 0) :: (23, .getfield 23, 3, 0, 2, 2) :: (26, .iload_n 2, 1, 0, 0, 0) :: (27, .aaload, 1, 0, 0, 0) :: (28, .aastore, 1, 0, 0, 0) :: (29, .iinc 2 1, 3, 0, 0, 0) :: (32, .goto (-23), 3, 0, 0, 0) :: k_49_35
def k_49_0 : List CE := (0, .aload_n 0, 1, 0, 0, 0) :: (1, .getfield 23, 3, 0, 2, 2) :: (4, .iconst 0, 1, 0, 0, 0) :: (5, .aaload, 1, 0, 0, 0) :: (6, .astore_n 1, 1, 0, 0, 0) :: (7, .iconst 1, 1, 0, 0, 0) :: (8, .istore_n 2, 1, 0, 0, 0) :: k_49_9
/-- PageInterpreter$State.copyFrom(LPageInterpreter$State;)V -/
def k_50_52 : List CE := (52, .aload_n 1, 1, 0, 0, 0) :: (53, .getfield 21, 3, 3, 2, 2) :: (56, .iconst 0, 1, 0, 0, 0) :: (57, .aload_n 0, 1, 0, 0, 0) :: (58, .getfield 21, 3, 3, 2, 2) :: (61, .iconst 0, 1, 0, 0, 0) :: (62, .aload_n 0, 1, 0, 0, 0) :: (63, .getfield 21, 3, 3, 2, 2) :: (66, .arraylength, 1, 0, 0, 0) :: (67, .invokestatic 38, 3, 0, 0, (-2)) :: (70, .aload_n 1, 1, 0, 0, 0) :: (71, .getfield 25, 3, 3, 2, 3) :: (74, .iconst 0, 1, 0, 0, 0) :: (75, .aload_n 0, 1, 0, 0, 0) :: (76, .getfield 25, 3, 3, 2, 3) :: (79, .iconst 0, 1, 0, 0, 0) :: (80, .aload_n 0, 1, 0, 0, 0) :: (81, .getfield 25, 3, 3, 2, 3) :: (84, .arraylength, 1, 0, 0, 0) :: (85, .invokestatic 38, 3, 0, 0, (-2)) :: (88, .aload_n 0, 1, 0, 0, 0) :: (89, .aload_n 1, 1, 0, 0, 0) :: (90, .getfield 28, 3, 3, 0, 4) :: (93, .putfield 28, 3, 3, 0, 4) :: (96, .aload_n 0, 1, 0, 0, 0) :: (97, .aload_n 1, 1, 0, 0, 0) :: (98, .getfield 32, 3, 3, 0, 5) :: (101, .putfield 32, 3, 3, 0, 5) :: (104, .aload_n 0, 1, 0, 0, 0) :: (105, .aload_n 1, 1, 0, 0, 0) :: (106, .getfield 35, 3, 3, 0, 6) :: (109, .putfield 35, 3, 3, 0, 6) :: (112, .return_, 1, 0, 0, 0) :: []
def k_50_28 : List CE := (28, .iload_n 2, 1, 0, 0, 0) :: (29, .bipush 6, 2, 0, 0, 0) :: (31, .if_icmp .ge 21, 3, 0, 0, 0) :: (34, .aload_n 0, 1, 0, 0, 0) :: (35, .getfield 17, 3, 3, 2, 1) :: (38, .iload_n 2, 1, 0, 0, 0) :: (39, .aload_n 1, 1, 0, 0, 0) :: (40, .getfield 17, 3, 3, 2, 1) :: (43, .iload_n 2, 1, 0, 0, 0) :: (44, .baload, 1, 0, 0, 0) :: (45, .bastore, 1, 0, 0, 0) :: (46, .iinc 2 1, 3, 0, 0, 0) :: (49, .goto (-21), 3, 0, 0, 0) :: k_50_52
def k_50_26 : List CE := (26, .iconst 0, 1, 0, 0, 0) :: (27, .istore_n 2, 1, 0, 0, 0) :: k_50_28
def k_50_2 : List CE := (2, .iload_n 2, 1, 0, 0, 0) :: (3, .bipush 7, 2, 0, 0, 0) :: (5, .if_icmp .ge 21, 3, 0, 0, 0) :: (8, .aload_n 0, 1, 0, 0, 0) :: (9, .getfield 11, 3, 3, 2, 0) :: (12, .iload_n 2, 1, 0, 0, 0) :: (13, .aload_n 1, 1, 0, 0, 0) :: (14, .getfield 11, 3, 3, 2, 0) :: (17, .iload_n 2, 1, 0, 0, 0) :: (18, .aaload, 1, 0, 0, 0) :: (19, .aastore, 1, 0, 0, 0) :: (20, .iinc 2 1, 3, 0, 0, 0) :: (23, .goto (-21), 3, 0, 0, 0) :: k_50_26
def k_50_0 : List CE := (0, .iconst 0, 1, 0, 0, 0) :: (1, .istore_n 2, 1, 0, 0, 0) :: k_50_2
/-- PageInterpreter$Reader.makeProgram()LPageInterpreter$Program; -/
def k_51_23 : List CE := (23, .areturn, 1, 0, 0, 0) :: []
def k_51_0 : List CE := (0, .new 39, 3, 9, 4, 0) :: (3, .dup, 1, 0, 0, 0) :: (4, .aload_n 0, 1, 0, 0, 0) :: (5, .getfield 17, 3, 1, 2, 1) :: (8, .aload_n 0, 1, 0, 0, 0) :: (9, .getfield 21, 3, 1, 2, 2) :: (12, .aload_n 0, 1, 0, 0, 0) :: (13, .getfield 25, 3, 1, 2, 3) :: (16, .aload_n 0, 1, 0, 0, 0) :: (17, .getfield 41, 3, 1, 0, 6) :: (20, .invokespecial 44, 3, 52, 5, 10) :: k_51_23
/-- PageInterpreter$Program.<init>([LPageInterpreter$Operator;[J[II)V -/
def k_52_80 : List CE := (80, .putfield 41, 3, 9, 2, 2) :: (83, .return_, 1, 0, 0, 0) :: []
def k_52_68 : List CE := (68, .putfield 34, 3, 9, 2, 1) :: (71, .aload_n 0, 1, 0, 0, 0) :: (72, .aload_n 3, 1, 0, 0, 0) :: (73, .aload_n 0, 1, 0, 0, 0) :: (74, .getfield 16, 3, 9, 0, 3) :: (77, .invokestatic 38, 3, 56, 2, 0) :: k_52_80
def k_52_59 : List CE := (59, .aload_n 0, 1, 0, 0, 0) :: (60, .aload_n 2, 1, 0, 0, 0) :: (61, .aload_n 0, 1, 0, 0, 0) :: (62, .getfield 16, 3, 9, 0, 3) :: (65, .invokestatic 28, 3, 55, 2, 0) :: k_52_68
def k_52_33 : List CE := (33, .iload 5, 2, 0, 0, 0) :: (35, .aload_n 0, 1, 0, 0, 0) :: (36, .getfield 16, 3, 9, 0, 3) :: (39, .if_icmp .ge 20, 3, 0, 0, 0) :: (42, .aload_n 0, 1, 0, 0, 0) :: (43, .getfield 24, 3, 9, 2, 0) :: (46, .iload 5, 2, 0, 0, 0) :: (48, .aload_n 1, 1, 0, 0, 0) :: (49, .iload 5, 2, 0, 0, 0) :: (51, .aaload, 1, 0, 0, 0) :: (52, .aastore, 1, 0, 0, 0) :: (53, .iinc 5 1, 3, 0, 0, 0) :: (56, .goto (-23), 3, 0, 0, 0) :: k_52_59
def k_52_16 : List CE := (16, .putfield 16, 3, 9, 0, 3) :: (19, .aload_n 0, 1, 0, 0, 0) :: (20, .aload_n 0, 1, 0, 0, 0) :: (21, .getfield 16, 3, 9, 0, 3) :: (24, .anewarray 22, 3, 150, 0, 0) :: (27, .putfield 24, 3, 9, 2, 0) :: (30, .iconst 0, 1, 0, 0, 0) :: (31, .istore 5, 2, 0, 0, 0) :: k_52_33
def k_52_13 : List CE := (13, .invokestatic 13, 3, 54, 2, 0) :: k_52_16
def k_52_0 : List CE := (0, .aload_n 0, 1, 0, 0, 0) :: (1, .invokespecial 1, 3, 0, 0, (-1)) :: (4, .aload_n 0, 1, 0, 0, 0) :: (5, .iconst 0, 1, 0, 0, 0) :: (6, .iload 4, 2, 0, 0, 0) :: (8, .aload_n 1, 1, 0, 0, 0) :: (9, .arraylength, 1, 0, 0, 0) :: (10, .invokestatic 7, 3, 53, 2, 0) :: k_52_13
/-- java/lang/Math.min(II)I -/
def k_53_10 : List CE := (10, .ireturn, 1, 0, 0, 0) :: []
def k_53_9 : List CE := (9, .iload_n 1, 1, 0, 0, 0) :: k_53_10
def k_53_0 : List CE := (0, .iload_n 0, 1, 0, 0, 0) :: (1, .iload_n 1, 1, 0, 0, 0) :: (2, .if_icmp .gt 7, 3, 0, 0, 0) :: (5, .iload_n 0, 1, 0, 0, 0) :: (6, .goto 4, 3, 0, 0, 0) :: k_53_9
/-- java/lang/Math.max(II)I -/
def k_54_10 : List CE := (10, .ireturn, 1, 0, 0, 0) :: []
def k_54_9 : List CE := (9, .iload_n 1, 1, 0, 0, 0) :: k_54_10
def k_54_0 : List CE := (0, .iload_n 0, 1, 0, 0, 0) :: (1, .iload_n 1, 1, 0, 0, 0) :: (2, .if_icmp .lt 7, 3, 0, 0, 0) :: (5, .iload_n 0, 1, 0, 0, 0) :: (6, .goto 4, 3, 0, 0, 0) :: k_54_9
/-- java/util/Arrays.copyOf([JI)[J -/
def k_55_28 : List CE := (28, .invokestatic 150, 3, 0, 0, (-2)) :: (31, .aload_n 2, 1, 0, 0, 0) :: (32, .areturn, 1, 0, 0, 0) :: []
def k_55_14 : List CE := (14, .iload_n 1, 1, 0, 0, 0) :: (15, .newarray .long, 2, 101, 0, 0) :: (17, .astore_n 2, 1, 0, 0, 0) :: (18, .aload_n 0, 1, 0, 0, 0) :: (19, .iconst 0, 1, 0, 0, 0) :: (20, .aload_n 2, 1, 0, 0, 0) :: (21, .iconst 0, 1, 0, 0, 0) :: (22, .aload_n 0, 1, 0, 0, 0) :: (23, .arraylength, 1, 0, 0, 0) :: (24, .iload_n 1, 1, 0, 0, 0) :: (25, .invokestatic 304, 3, 53, 2, 0) :: k_55_28
def k_55_0 : List CE := (0, .iload_n 1, 1, 0, 0, 0) :: (1, .aload_n 0, 1, 0, 0, 0) :: (2, .arraylength, 1, 0, 0, 0) :: (3, .if_icmp .ne 11, 3, 0, 0, 0) :: (6, .aload_n 0, 1, 0, 0, 0) :: (7, .invokevirtual 319, 3, 0, 0, (-9)) :: (10, .checkcast 320, 3, 0, 0, 0) :: (13, .areturn, 1, 0, 0, 0) :: k_55_14
/-- java/util/Arrays.copyOf([II)[I -/
def k_56_28 : List CE := (28, .invokestatic 150, 3, 0, 0, (-2)) :: (31, .aload_n 2, 1, 0, 0, 0) :: (32, .areturn, 1, 0, 0, 0) :: []
def k_56_14 : List CE := (14, .iload_n 1, 1, 0, 0, 0) :: (15, .newarray .int, 2, 100, 0, 0) :: (17, .astore_n 2, 1, 0, 0, 0) :: (18, .aload_n 0, 1, 0, 0, 0) :: (19, .iconst 0, 1, 0, 0, 0) :: (20, .aload_n 2, 1, 0, 0, 0) :: (21, .iconst 0, 1, 0, 0, 0) :: (22, .aload_n 0, 1, 0, 0, 0) :: (23, .arraylength, 1, 0, 0, 0) :: (24, .iload_n 1, 1, 0, 0, 0) :: (25, .invokestatic 304, 3, 53, 2, 0) :: k_56_28
def k_56_0 : List CE := (0, .iload_n 1, 1, 0, 0, 0) :: (1, .aload_n 0, 1, 0, 0, 0) :: (2, .arraylength, 1, 0, 0, 0) :: (3, .if_icmp .ne 11, 3, 0, 0, 0) :: (6, .aload_n 0, 1, 0, 0, 0) :: (7, .invokevirtual 316, 3, 0, 0, (-9)) :: (10, .checkcast 317, 3, 0, 0, 0) :: (13, .areturn, 1, 0, 0, 0) :: k_56_14
/-- PageInterpreter.tokenCount(I)I -/
def k_57_35 : List CE := (35, .ireturn, 1, 0, 0, 0) :: []
def k_57_31 : List CE := (31, .aload_n 2, 1, 0, 0, 0) :: (32, .getfield 62, 3, 9, 0, 3) :: k_57_35
def k_57_10 : List CE := (10, .aload_n 0, 1, 0, 0, 0) :: (11, .getfield 19, 3, 0, 2, 1) :: (14, .getfield 58, 3, 3, 2, 0) :: (17, .iload_n 1, 1, 0, 0, 0) :: (18, .iconst 1, 1, 0, 0, 0) :: (19, .iadd, 1, 0, 0, 0) :: (20, .aaload, 1, 0, 0, 0) :: (21, .astore_n 2, 1, 0, 0, 0) :: (22, .aload_n 2, 1, 0, 0, 0) :: (23, .ifnonnull 8, 3, 0, 0, 0) :: (26, .ldc 65, 2, 0, 0, (-10000009)) :: (28, .goto 7, 3, 0, 0, 0) :: k_57_31
def k_57_4 : List CE := (4, .ifCond .ne 6, 3, 0, 0, 0) :: (7, .ldc 34, 2, 0, 0, (-10000001)) :: (9, .ireturn, 1, 0, 0, 0) :: k_57_10
def k_57_0 : List CE := (0, .iload_n 1, 1, 0, 0, 0) :: (1, .invokestatic 44, 3, 14, 1, 0) :: k_57_4
/-- PageInterpreter.setBox(IIIII)I -/
def k_58_65 : List CE := (65, .iload 6, 2, 0, 0, 0) :: (67, .ireturn, 1, 0, 0, 0) :: []
def k_58_49 : List CE := (49, .istore 6, 2, 0, 0, 0) :: (51, .aload_n 0, 1, 0, 0, 0) :: (52, .getfield 19, 3, 0, 2, 1) :: (55, .iload_n 1, 1, 0, 0, 0) :: (56, .iload_n 2, 1, 0, 0, 0) :: (57, .iload_n 3, 1, 0, 0, 0) :: (58, .iload 4, 2, 0, 0, 0) :: (60, .iload 5, 2, 0, 0, 0) :: (62, .invokevirtual 77, 3, 61, 6, 4) :: k_58_65
def k_58_48 : List CE := (48, .iconst 0, 1, 0, 0, 0) :: k_58_49
def k_58_32 : List CE := (32, .aload_n 0, 1, 0, 0, 0) :: (33, .getfield 19, 3, 0, 2, 1) :: (36, .getfield 73, 3, 3, 2, 1) :: (39, .iload_n 1, 1, 0, 0, 0) :: (40, .baload, 1, 0, 0, 0) :: (41, .ifCond .eq 7, 3, 0, 0, 0) :: (44, .iconst 1, 1, 0, 0, 0) :: (45, .goto 4, 3, 0, 0, 0) :: k_58_48
def k_58_28 : List CE := (28, .aload_n 0, 1, 0, 0, 0) :: (29, .invokevirtual 51, 3, 48, 1, 1) :: k_58_32
def k_58_25 : List CE := (25, .ldc 34, 2, 0, 0, (-10000001)) :: (27, .ireturn, 1, 0, 0, 0) :: k_58_28
def k_58_22 : List CE := (22, .ifCond .ne 6, 3, 0, 0, 0) :: k_58_25
def k_58_13 : List CE := (13, .ifCond .eq 12, 3, 0, 0, 0) :: (16, .iload_n 3, 1, 0, 0, 0) :: (17, .iload 5, 2, 0, 0, 0) :: (19, .invokestatic 69, 3, 60, 2, 0) :: k_58_22
def k_58_4 : List CE := (4, .ifCond .eq 21, 3, 0, 0, 0) :: (7, .iload_n 2, 1, 0, 0, 0) :: (8, .iload 4, 2, 0, 0, 0) :: (10, .invokestatic 69, 3, 60, 2, 0) :: k_58_13
def k_58_0 : List CE := (0, .iload_n 1, 1, 0, 0, 0) :: (1, .invokestatic 66, 3, 59, 1, 0) :: k_58_4
/-- PageInterpreter.isForm(I)Z -/
def k_59_6 : List CE := (6, .ireturn, 1, 1, 0, 0) :: []
def k_59_0 : List CE := (0, .iload_n 0, 1, 0, 0, 0) :: (1, .iconst 0, 1, 0, 0, 0) :: (2, .iconst 5, 1, 0, 0, 0) :: (3, .invokestatic 96, 3, 15, 3, 0) :: k_59_6
/-- PageInterpreter.isSpan(II)Z -/
def k_60_27 : List CE := (27, .ireturn, 1, 1, 0, 0) :: []
def k_60_26 : List CE := (26, .iconst 0, 1, 0, 0, 0) :: k_60_27
def k_60_8 : List CE := (8, .ifCond .eq 18, 3, 0, 0, 0) :: (11, .iload_n 1, 1, 0, 0, 0) :: (12, .iload_n 0, 1, 0, 0, 0) :: (13, .if_icmp .le 13, 3, 0, 0, 0) :: (16, .iload_n 1, 1, 0, 0, 0) :: (17, .bipush 99, 2, 0, 0, 0) :: (19, .if_icmp .gt 7, 3, 0, 0, 0) :: (22, .iconst 1, 1, 0, 0, 0) :: (23, .goto 4, 3, 0, 0, 0) :: k_60_26
def k_60_0 : List CE := (0, .iload_n 0, 1, 0, 0, 0) :: (1, .bipush (-99), 2, 0, 0, 0) :: (3, .bipush 99, 2, 0, 0, 0) :: (5, .invokestatic 96, 3, 15, 3, 0) :: k_60_8
/-- PageInterpreter$State.putBox(IIIII)V -/
def k_61_58 : List CE := (58, .return_, 1, 0, 0, 0) :: []
def k_61_4 : List CE := (4, .ifCond .eq 54, 3, 0, 0, 0) :: (7, .aload_n 0, 1, 0, 0, 0) :: (8, .getfield 17, 3, 3, 2, 1) :: (11, .iload_n 1, 1, 0, 0, 0) :: (12, .iconst 1, 1, 0, 0, 0) :: (13, .bastore, 1, 0, 0, 0) :: (14, .aload_n 0, 1, 0, 0, 0) :: (15, .getfield 21, 3, 3, 2, 2) :: (18, .iload_n 1, 1, 0, 0, 0) :: (19, .iconst 4, 1, 0, 0, 0) :: (20, .imul, 1, 0, 0, 0) :: (21, .iload_n 2, 1, 0, 0, 0) :: (22, .iastore, 1, 0, 0, 0) :: (23, .aload_n 0, 1, 0, 0, 0) :: (24, .getfield 21, 3, 3, 2, 2) :: (27, .iload_n 1, 1, 0, 0, 0) :: (28, .iconst 4, 1, 0, 0, 0) :: (29, .imul, 1, 0, 0, 0) :: (30, .iconst 1, 1, 0, 0, 0) :: (31, .iadd, 1, 0, 0, 0) :: (32, .iload_n 3, 1, 0, 0, 0) :: (33, .iastore, 1, 0, 0, 0) :: (34, .aload_n 0, 1, 0, 0, 0) :: (35, .getfield 21, 3, 3, 2, 2) :: (38, .iload_n 1, 1, 0, 0, 0) :: (39, .iconst 4, 1, 0, 0, 0) :: (40, .imul, 1, 0, 0, 0) :: (41, .iconst 2, 1, 0, 0, 0) :: (42, .iadd, 1, 0, 0, 0) :: (43, .iload 4, 2, 0, 0, 0) :: (45, .iastore, 1, 0, 0, 0) :: (46, .aload_n 0, 1, 0, 0, 0) :: (47, .getfield 21, 3, 3, 2, 2) :: (50, .iload_n 1, 1, 0, 0, 0) :: (51, .iconst 4, 1, 0, 0, 0) :: (52, .imul, 1, 0, 0, 0) :: (53, .iconst 3, 1, 0, 0, 0) :: (54, .iadd, 1, 0, 0, 0) :: (55, .iload 5, 2, 0, 0, 0) :: (57, .iastore, 1, 0, 0, 0) :: k_61_58
def k_61_0 : List CE := (0, .iload_n 1, 1, 0, 0, 0) :: (1, .invokestatic 44, 3, 59, 1, 0) :: k_61_4
/-- PageInterpreter.removeBox(I)I -/
def k_62_29 : List CE := (29, .aload_n 0, 1, 0, 0, 0) :: (30, .getfield 19, 3, 0, 2, 1) :: (33, .getfield 73, 3, 3, 2, 1) :: (36, .iload_n 1, 1, 0, 0, 0) :: (37, .iconst 0, 1, 0, 0, 0) :: (38, .bastore, 1, 0, 0, 0) :: (39, .iconst 1, 1, 0, 0, 0) :: (40, .ireturn, 1, 0, 0, 0) :: []
def k_62_25 : List CE := (25, .aload_n 0, 1, 0, 0, 0) :: (26, .invokevirtual 51, 3, 48, 1, 1) :: k_62_29
def k_62_10 : List CE := (10, .aload_n 0, 1, 0, 0, 0) :: (11, .getfield 19, 3, 0, 2, 1) :: (14, .getfield 73, 3, 3, 2, 1) :: (17, .iload_n 1, 1, 0, 0, 0) :: (18, .baload, 1, 0, 0, 0) :: (19, .ifCond .ne 6, 3, 0, 0, 0) :: (22, .ldc 81, 2, 0, 0, (-10000002)) :: (24, .ireturn, 1, 0, 0, 0) :: k_62_25
def k_62_4 : List CE := (4, .ifCond .ne 6, 3, 0, 0, 0) :: (7, .ldc 34, 2, 0, 0, (-10000001)) :: (9, .ireturn, 1, 0, 0, 0) :: k_62_10
def k_62_0 : List CE := (0, .iload_n 1, 1, 0, 0, 0) :: (1, .invokestatic 66, 3, 59, 1, 0) :: k_62_4
/-- PageInterpreter.define(IIII)I -/
def k_63_67 : List CE := (67, .ireturn, 1, 0, 0, 0) :: []
def k_63_66 : List CE := (66, .iconst 1, 1, 0, 0, 0) :: k_63_67
def k_63_57 : List CE := (57, .iload 5, 2, 0, 0, 0) :: (59, .ifCond .ne 7, 3, 0, 0, 0) :: (62, .iconst 0, 1, 0, 0, 0) :: (63, .goto 4, 3, 0, 0, 0) :: k_63_66
def k_63_39 : List CE := (39, .istore 5, 2, 0, 0, 0) :: (41, .aload_n 0, 1, 0, 0, 0) :: (42, .getfield 19, 3, 0, 2, 1) :: (45, .iload_n 1, 1, 0, 0, 0) :: (46, .iload_n 2, 1, 0, 0, 0) :: (47, .iload_n 3, 1, 0, 0, 0) :: (48, .bipush 100, 2, 0, 0, 0) :: (50, .imul, 1, 0, 0, 0) :: (51, .iload 4, 2, 0, 0, 0) :: (53, .iadd, 1, 0, 0, 0) :: (54, .invokevirtual 92, 3, 66, 4, 4) :: k_63_57
def k_63_30 : List CE := (30, .aload_n 0, 1, 0, 0, 0) :: (31, .getfield 19, 3, 0, 2, 1) :: (34, .iload_n 1, 1, 0, 0, 0) :: (35, .iload_n 2, 1, 0, 0, 0) :: (36, .invokevirtual 88, 3, 65, 3, 4) :: k_63_39
def k_63_26 : List CE := (26, .aload_n 0, 1, 0, 0, 0) :: (27, .invokevirtual 51, 3, 48, 1, 1) :: k_63_30
def k_63_23 : List CE := (23, .ldc 34, 2, 0, 0, (-10000001)) :: (25, .ireturn, 1, 0, 0, 0) :: k_63_26
def k_63_20 : List CE := (20, .ifCond .ne 6, 3, 0, 0, 0) :: k_63_23
def k_63_11 : List CE := (11, .ifCond .eq 12, 3, 0, 0, 0) :: (14, .iload_n 3, 1, 0, 0, 0) :: (15, .iload 4, 2, 0, 0, 0) :: (17, .invokestatic 85, 3, 64, 2, 0) :: k_63_20
def k_63_4 : List CE := (4, .ifCond .eq 19, 3, 0, 0, 0) :: (7, .iload_n 2, 1, 0, 0, 0) :: (8, .invokestatic 82, 3, 27, 1, 0) :: k_63_11
def k_63_0 : List CE := (0, .iload_n 1, 1, 0, 0, 0) :: (1, .invokestatic 44, 3, 14, 1, 0) :: k_63_4
/-- PageInterpreter.isResource(II)Z -/
def k_64_30 : List CE := (30, .ireturn, 1, 1, 0, 0) :: []
def k_64_29 : List CE := (29, .iconst 0, 1, 0, 0, 0) :: k_64_30
def k_64_22 : List CE := (22, .ifCond .eq 7, 3, 0, 0, 0) :: (25, .iconst 1, 1, 0, 0, 0) :: (26, .goto 4, 3, 0, 0, 0) :: k_64_29
def k_64_13 : List CE := (13, .iload_n 0, 1, 0, 0, 0) :: (14, .iconst 2, 1, 0, 0, 0) :: (15, .if_icmp .ne 14, 3, 0, 0, 0) :: (18, .iload_n 1, 1, 0, 0, 0) :: (19, .invokestatic 66, 3, 59, 1, 0) :: k_64_22
def k_64_12 : List CE := (12, .ireturn, 1, 1, 0, 0) :: k_64_13
def k_64_0 : List CE := (0, .iload_n 0, 1, 0, 0, 0) :: (1, .iconst 1, 1, 0, 0, 0) :: (2, .if_icmp .ne 11, 3, 0, 0, 0) :: (5, .iload_n 1, 1, 0, 0, 0) :: (6, .iconst 0, 1, 0, 0, 0) :: (7, .bipush 15, 2, 0, 0, 0) :: (9, .invokestatic 96, 3, 15, 3, 0) :: k_64_12
/-- PageInterpreter$State.findResource(II)I -/
def k_65_31 : List CE := (31, .ireturn, 1, 0, 0, 0) :: []
def k_65_30 : List CE := (30, .iconst 0, 1, 0, 0, 0) :: k_65_31
def k_65_11 : List CE := (11, .ifCond .eq 19, 3, 0, 0, 0) :: (14, .aload_n 0, 1, 0, 0, 0) :: (15, .getfield 25, 3, 3, 2, 3) :: (18, .iload_n 1, 1, 0, 0, 0) :: (19, .iconst 1, 1, 0, 0, 0) :: (20, .iadd, 1, 0, 0, 0) :: (21, .bipush 8, 2, 0, 0, 0) :: (23, .imul, 1, 0, 0, 0) :: (24, .iload_n 2, 1, 0, 0, 0) :: (25, .iadd, 1, 0, 0, 0) :: (26, .iaload, 1, 0, 0, 0) :: (27, .goto 4, 3, 0, 0, 0) :: k_65_30
def k_65_4 : List CE := (4, .ifCond .eq 26, 3, 0, 0, 0) :: (7, .iload_n 2, 1, 0, 0, 0) :: (8, .invokestatic 61, 3, 27, 1, 0) :: k_65_11
def k_65_0 : List CE := (0, .iload_n 1, 1, 0, 0, 0) :: (1, .invokestatic 58, 3, 14, 1, 0) :: k_65_4
/-- PageInterpreter$State.putResource(III)V -/
def k_66_28 : List CE := (28, .return_, 1, 0, 0, 0) :: []
def k_66_11 : List CE := (11, .ifCond .eq 17, 3, 0, 0, 0) :: (14, .aload_n 0, 1, 0, 0, 0) :: (15, .getfield 25, 3, 3, 2, 3) :: (18, .iload_n 1, 1, 0, 0, 0) :: (19, .iconst 1, 1, 0, 0, 0) :: (20, .iadd, 1, 0, 0, 0) :: (21, .bipush 8, 2, 0, 0, 0) :: (23, .imul, 1, 0, 0, 0) :: (24, .iload_n 2, 1, 0, 0, 0) :: (25, .iadd, 1, 0, 0, 0) :: (26, .iload_n 3, 1, 0, 0, 0) :: (27, .iastore, 1, 0, 0, 0) :: k_66_28
def k_66_4 : List CE := (4, .ifCond .eq 24, 3, 0, 0, 0) :: (7, .iload_n 2, 1, 0, 0, 0) :: (8, .invokestatic 61, 3, 27, 1, 0) :: k_66_11
def k_66_0 : List CE := (0, .iload_n 1, 1, 0, 0, 0) :: (1, .invokestatic 58, 3, 14, 1, 0) :: k_66_4
/-- PageInterpreter.removeResource(II)I -/
def k_67_48 : List CE := (48, .iload_n 3, 1, 0, 0, 0) :: (49, .ireturn, 1, 0, 0, 0) :: []
def k_67_38 : List CE := (38, .aload_n 0, 1, 0, 0, 0) :: (39, .getfield 19, 3, 0, 2, 1) :: (42, .iload_n 1, 1, 0, 0, 0) :: (43, .iload_n 2, 1, 0, 0, 0) :: (44, .iconst 0, 1, 0, 0, 0) :: (45, .invokevirtual 92, 3, 66, 4, 4) :: k_67_48
def k_67_34 : List CE := (34, .aload_n 0, 1, 0, 0, 0) :: (35, .invokevirtual 51, 3, 48, 1, 1) :: k_67_38
def k_67_26 : List CE := (26, .istore_n 3, 1, 0, 0, 0) :: (27, .iload_n 3, 1, 0, 0, 0) :: (28, .ifCond .ne 6, 3, 0, 0, 0) :: (31, .ldc 81, 2, 0, 0, (-10000002)) :: (33, .ireturn, 1, 0, 0, 0) :: k_67_34
def k_67_17 : List CE := (17, .aload_n 0, 1, 0, 0, 0) :: (18, .getfield 19, 3, 0, 2, 1) :: (21, .iload_n 1, 1, 0, 0, 0) :: (22, .iload_n 2, 1, 0, 0, 0) :: (23, .invokevirtual 88, 3, 65, 3, 4) :: k_67_26
def k_67_14 : List CE := (14, .ldc 34, 2, 0, 0, (-10000001)) :: (16, .ireturn, 1, 0, 0, 0) :: k_67_17
def k_67_11 : List CE := (11, .ifCond .ne 6, 3, 0, 0, 0) :: k_67_14
def k_67_4 : List CE := (4, .ifCond .eq 10, 3, 0, 0, 0) :: (7, .iload_n 2, 1, 0, 0, 0) :: (8, .invokestatic 82, 3, 27, 1, 0) :: k_67_11
def k_67_0 : List CE := (0, .iload_n 1, 1, 0, 0, 0) :: (1, .invokestatic 44, 3, 14, 1, 0) :: k_67_4
/-- PageInterpreter.resource(II)I -/
def k_68_37 : List CE := (37, .ireturn, 1, 0, 0, 0) :: []
def k_68_36 : List CE := (36, .iload_n 3, 1, 0, 0, 0) :: k_68_37
def k_68_26 : List CE := (26, .istore_n 3, 1, 0, 0, 0) :: (27, .iload_n 3, 1, 0, 0, 0) :: (28, .ifCond .ne 8, 3, 0, 0, 0) :: (31, .ldc 65, 2, 0, 0, (-10000009)) :: (33, .goto 4, 3, 0, 0, 0) :: k_68_36
def k_68_17 : List CE := (17, .aload_n 0, 1, 0, 0, 0) :: (18, .getfield 19, 3, 0, 2, 1) :: (21, .iload_n 1, 1, 0, 0, 0) :: (22, .iload_n 2, 1, 0, 0, 0) :: (23, .invokevirtual 88, 3, 65, 3, 4) :: k_68_26
def k_68_14 : List CE := (14, .ldc 34, 2, 0, 0, (-10000001)) :: (16, .ireturn, 1, 0, 0, 0) :: k_68_17
def k_68_11 : List CE := (11, .ifCond .ne 6, 3, 0, 0, 0) :: k_68_14
def k_68_4 : List CE := (4, .ifCond .eq 10, 3, 0, 0, 0) :: (7, .iload_n 2, 1, 0, 0, 0) :: (8, .invokestatic 82, 3, 27, 1, 0) :: k_68_11
def k_68_0 : List CE := (0, .iload_n 1, 1, 0, 0, 0) :: (1, .invokestatic 44, 3, 14, 1, 0) :: k_68_4
/-- PageInterpreter.setSize(II)I -/
def k_69_27 : List CE := (27, .aload_n 0, 1, 0, 0, 0) :: (28, .getfield 19, 3, 0, 2, 1) :: (31, .iload_n 1, 1, 0, 0, 0) :: (32, .putfield 100, 3, 3, 0, 4) :: (35, .aload_n 0, 1, 0, 0, 0) :: (36, .getfield 19, 3, 0, 2, 1) :: (39, .iload_n 2, 1, 0, 0, 0) :: (40, .putfield 103, 3, 3, 0, 5) :: (43, .iload_n 1, 1, 0, 0, 0) :: (44, .iload_n 2, 1, 0, 0, 0) :: (45, .imul, 1, 0, 0, 0) :: (46, .ireturn, 1, 0, 0, 0) :: []
def k_69_23 : List CE := (23, .aload_n 0, 1, 0, 0, 0) :: (24, .invokevirtual 51, 3, 48, 1, 1) :: k_69_27
def k_69_20 : List CE := (20, .ldc 34, 2, 0, 0, (-10000001)) :: (22, .ireturn, 1, 0, 0, 0) :: k_69_23
def k_69_17 : List CE := (17, .ifCond .ne 6, 3, 0, 0, 0) :: k_69_20
def k_69_7 : List CE := (7, .ifCond .eq 13, 3, 0, 0, 0) :: (10, .iload_n 2, 1, 0, 0, 0) :: (11, .iconst 4, 1, 0, 0, 0) :: (12, .bipush 24, 2, 0, 0, 0) :: (14, .invokestatic 96, 3, 15, 3, 0) :: k_69_17
def k_69_0 : List CE := (0, .iload_n 1, 1, 0, 0, 0) :: (1, .iconst 4, 1, 0, 0, 0) :: (2, .bipush 24, 2, 0, 0, 0) :: (4, .invokestatic 96, 3, 15, 3, 0) :: k_69_7
/-- PageInterpreter.setBudget(I)I -/
def k_70_18 : List CE := (18, .aload_n 0, 1, 0, 0, 0) :: (19, .getfield 19, 3, 0, 2, 1) :: (22, .getfield 106, 3, 3, 0, 6) :: (25, .istore_n 2, 1, 0, 0, 0) :: (26, .aload_n 0, 1, 0, 0, 0) :: (27, .getfield 19, 3, 0, 2, 1) :: (30, .iload_n 1, 1, 0, 0, 0) :: (31, .putfield 106, 3, 3, 0, 6) :: (34, .iload_n 2, 1, 0, 0, 0) :: (35, .ireturn, 1, 0, 0, 0) :: []
def k_70_14 : List CE := (14, .aload_n 0, 1, 0, 0, 0) :: (15, .invokevirtual 51, 3, 48, 1, 1) :: k_70_18
def k_70_8 : List CE := (8, .ifCond .ne 6, 3, 0, 0, 0) :: (11, .ldc 34, 2, 0, 0, (-10000001)) :: (13, .ireturn, 1, 0, 0, 0) :: k_70_14
def k_70_0 : List CE := (0, .iload_n 1, 1, 0, 0, 0) :: (1, .iconst 1, 1, 0, 0, 0) :: (2, .sipush 200, 3, 0, 0, 0) :: (5, .invokestatic 96, 3, 15, 3, 0) :: k_70_8
/-- PageInterpreter.undo()I -/
def k_71_46 : List CE := (46, .aload_n 0, 1, 0, 0, 0) :: (47, .getfield 109, 3, 0, 0, 4) :: (50, .ireturn, 1, 0, 0, 0) :: []
def k_71_20 : List CE := (20, .aload_n 0, 1, 0, 0, 0) :: (21, .dup, 1, 0, 0, 0) :: (22, .getfield 109, 3, 0, 0, 4) :: (25, .iconst 1, 1, 0, 0, 0) :: (26, .isub, 1, 0, 0, 0) :: (27, .putfield 109, 3, 0, 0, 4) :: (30, .aload_n 0, 1, 0, 0, 0) :: (31, .getfield 19, 3, 0, 2, 1) :: (34, .aload_n 0, 1, 0, 0, 0) :: (35, .getfield 23, 3, 0, 2, 2) :: (38, .aload_n 0, 1, 0, 0, 0) :: (39, .getfield 109, 3, 0, 0, 4) :: (42, .aaload, 1, 0, 0, 0) :: (43, .invokevirtual 112, 3, 50, 2, 4) :: k_71_46
def k_71_17 : List CE := (17, .ldc 81, 2, 0, 0, (-10000002)) :: (19, .ireturn, 1, 0, 0, 0) :: k_71_20
def k_71_0 : List CE := (0, .aload_n 0, 1, 0, 0, 0) :: (1, .getfield 109, 3, 0, 0, 4) :: (4, .iconst 1, 1, 0, 0, 0) :: (5, .if_icmp .lt 12, 3, 0, 0, 0) :: (8, .aload_n 0, 1, 0, 0, 0) :: (9, .getfield 109, 3, 0, 0, 4) :: (12, .bipush 6, 2, 0, 0, 0) :: (14, .if_icmp .le 6, 3, 0, 0, 0) :: k_71_17
/-- PageInterpreter.run()I -/
def k_72_26 : List CE := (26, .ireturn, 1, 0, 0, 0) :: []
def k_72_15 : List CE := (15, .aload_n 0, 1, 0, 0, 0) :: (16, .getfield 30, 3, 0, 2, 3) :: (19, .aload_n 0, 1, 0, 0, 0) :: (20, .getfield 19, 3, 0, 2, 1) :: (23, .invokevirtual 116, 3, 73, 2, 5) :: k_72_26
def k_72_0 : List CE := (0, .aload_n 0, 1, 0, 0, 0) :: (1, .getfield 19, 3, 0, 2, 1) :: (4, .getfield 58, 3, 3, 2, 0) :: (7, .iconst 0, 1, 0, 0, 0) :: (8, .aaload, 1, 0, 0, 0) :: (9, .ifnonnull 6, 3, 0, 0, 0) :: (12, .ldc 81, 2, 0, 0, (-10000002)) :: (14, .ireturn, 1, 0, 0, 0) :: k_72_15
/-- PageInterpreter$Machine.execute(LPageInterpreter$State;)I -/
def k_73_204 : List CE := (204, .aload_n 0, 1, 0, 0, 0) :: (205, .getfield 93, 3, 4, 0, 15) :: (208, .ireturn, 1, 0, 0, 0) :: []
def k_73_198 : List CE := (198, .iinc 3 1, 3, 0, 0, 0) :: (201, .goto (-192), 3, 0, 0, 0) :: k_73_204
def k_73_172 : List CE := (172, .aload 7, 2, 0, 0, 0) :: (174, .ifnull 24, 3, 0, 0, 0) :: (177, .aload 7, 2, 0, 0, 0) :: (179, .getstatic 81, 3, 18, 2, 0) :: (182, .if_acmp .eq 16, 3, 0, 0, 0) :: (185, .aload_n 0, 1, 0, 0, 0) :: (186, .aload 4, 2, 0, 0, 0) :: (188, .getfield 100, 3, 7, 0, 4) :: (191, .iload 5, 2, 0, 0, 0) :: (193, .iload 6, 2, 0, 0, 0) :: (195, .invokevirtual 109, 3, 130, 4, 5) :: k_73_198
def k_73_145 : List CE := (145, .aload_n 0, 1, 0, 0, 0) :: (146, .getfield 93, 3, 4, 0, 15) :: (149, .ifCond .eq 23, 3, 0, 0, 0) :: (152, .aload_n 0, 1, 0, 0, 0) :: (153, .aload 4, 2, 0, 0, 0) :: (155, .getfield 100, 3, 7, 0, 4) :: (158, .putfield 103, 3, 4, 0, 16) :: (161, .aload_n 0, 1, 0, 0, 0) :: (162, .iload 5, 2, 0, 0, 0) :: (164, .putfield 106, 3, 4, 0, 17) :: (167, .iconst 0, 1, 0, 0, 0) :: (168, .istore_n 2, 1, 0, 0, 0) :: (169, .goto 29, 3, 0, 0, 0) :: k_73_172
def k_73_142 : List CE := (142, .putfield 93, 3, 4, 0, 15) :: k_73_145
def k_73_120 : List CE := (120, .aload 4, 2, 0, 0, 0) :: (122, .dup, 1, 0, 0, 0) :: (123, .getfield 74, 3, 7, 0, 5) :: (126, .iconst 1, 1, 0, 0, 0) :: (127, .iadd, 1, 0, 0, 0) :: (128, .putfield 74, 3, 7, 0, 5) :: (131, .aload_n 0, 1, 0, 0, 0) :: (132, .aload_n 0, 1, 0, 0, 0) :: (133, .aload 7, 2, 0, 0, 0) :: (135, .aload 4, 2, 0, 0, 0) :: (137, .iload 5, 2, 0, 0, 0) :: (139, .invokevirtual 96, 3, 86, 4, 5) :: k_73_142
def k_73_114 : List CE := (114, .putfield 93, 3, 4, 0, 15) :: (117, .goto 28, 3, 0, 0, 0) :: k_73_120
def k_73_112 : List CE := (112, .bipush 6, 2, 0, 0, 0) :: k_73_114
def k_73_105 : List CE := (105, .ifCond .eq 7, 3, 0, 0, 0) :: (108, .iconst 0, 1, 0, 0, 0) :: (109, .goto 5, 3, 0, 0, 0) :: k_73_112
def k_73_94 : List CE := (94, .aload 7, 2, 0, 0, 0) :: (96, .ifnonnull 24, 3, 0, 0, 0) :: (99, .aload_n 0, 1, 0, 0, 0) :: (100, .aload 4, 2, 0, 0, 0) :: (102, .invokevirtual 90, 3, 83, 1, 8) :: k_73_105
def k_73_91 : List CE := (91, .goto 54, 3, 0, 0, 0) :: k_73_94
def k_73_76 : List CE := (76, .astore 7, 2, 0, 0, 0) :: (78, .aload 7, 2, 0, 0, 0) :: (80, .getstatic 81, 3, 18, 2, 0) :: (83, .if_acmp .ne 11, 3, 0, 0, 0) :: (86, .aload 4, 2, 0, 0, 0) :: (88, .invokevirtual 87, 3, 82, 1, 8) :: k_73_91
def k_73_58 : List CE := (58, .aload 4, 2, 0, 0, 0) :: (60, .getfield 74, 3, 7, 0, 5) :: (63, .istore 5, 2, 0, 0, 0) :: (65, .aload_n 0, 1, 0, 0, 0) :: (66, .getfield 63, 3, 4, 0, 11) :: (69, .istore 6, 2, 0, 0, 0) :: (71, .aload 4, 2, 0, 0, 0) :: (73, .invokevirtual 77, 3, 81, 1, 8) :: k_73_76
def k_73_55 : List CE := (55, .goto 143, 3, 0, 0, 0) :: k_73_58
def k_73_50 : List CE := (50, .istore_n 2, 1, 0, 0, 0) :: (51, .aload_n 0, 1, 0, 0, 0) :: (52, .invokevirtual 71, 3, 79, 1, 5) :: k_73_55
def k_73_49 : List CE := (49, .iconst 0, 1, 0, 0, 0) :: k_73_50
def k_73_35 : List CE := (35, .ifCond .eq 23, 3, 0, 0, 0) :: (38, .aload_n 0, 1, 0, 0, 0) :: (39, .getfield 63, 3, 4, 0, 11) :: (42, .ifCond .le 7, 3, 0, 0, 0) :: (45, .iconst 1, 1, 0, 0, 0) :: (46, .goto 4, 3, 0, 0, 0) :: k_73_49
def k_73_9 : List CE := (9, .iload_n 3, 1, 0, 0, 0) :: (10, .ldc 62, 2, 0, 0, 1000000) :: (12, .if_icmp .ge 192, 3, 0, 0, 0) :: (15, .iload_n 2, 1, 0, 0, 0) :: (16, .ifCond .eq 188, 3, 0, 0, 0) :: (19, .aload_n 0, 1, 0, 0, 0) :: (20, .getfield 11, 3, 4, 2, 0) :: (23, .aload_n 0, 1, 0, 0, 0) :: (24, .getfield 63, 3, 4, 0, 11) :: (27, .aaload, 1, 0, 0, 0) :: (28, .astore 4, 2, 0, 0, 0) :: (30, .aload 4, 2, 0, 0, 0) :: (32, .invokevirtual 67, 3, 78, 1, 8) :: k_73_35
def k_73_5 : List CE := (5, .iconst 1, 1, 0, 0, 0) :: (6, .istore_n 2, 1, 0, 0, 0) :: (7, .iconst 0, 1, 0, 0, 0) :: (8, .istore_n 3, 1, 0, 0, 0) :: k_73_9
def k_73_0 : List CE := (0, .aload_n 0, 1, 0, 0, 0) :: (1, .aload_n 1, 1, 0, 0, 0) :: (2, .invokevirtual 58, 3, 74, 2, 5) :: k_73_5
/-- PageInterpreter$Machine.begin(LPageInterpreter$State;)V -/
def k_74_75 : List CE := (75, .return_, 1, 0, 0, 0) :: []
def k_74_59 : List CE := (59, .aload_n 0, 1, 0, 0, 0) :: (60, .getfield 11, 3, 4, 2, 0) :: (63, .iconst 0, 1, 0, 0, 0) :: (64, .aaload, 1, 0, 0, 0) :: (65, .iconst (-1), 1, 0, 0, 0) :: (66, .aload_n 1, 1, 0, 0, 0) :: (67, .getfield 135, 3, 3, 2, 0) :: (70, .iconst 0, 1, 0, 0, 0) :: (71, .aaload, 1, 0, 0, 0) :: (72, .invokevirtual 141, 3, 77, 3, 8) :: k_74_75
def k_74_42 : List CE := (42, .aload_n 0, 1, 0, 0, 0) :: (43, .getfield 35, 3, 4, 2, 3) :: (46, .iconst 0, 1, 0, 0, 0) :: (47, .putfield 132, 3, 6, 0, 8) :: (50, .aload_n 0, 1, 0, 0, 0) :: (51, .getfield 19, 3, 4, 2, 1) :: (54, .iconst 0, 1, 0, 0, 0) :: (55, .aaload, 1, 0, 0, 0) :: (56, .invokevirtual 134, 3, 76, 1, 9) :: k_74_59
def k_74_0 : List CE := (0, .aload_n 0, 1, 0, 0, 0) :: (1, .aload_n 1, 1, 0, 0, 0) :: (2, .putfield 113, 3, 4, 2, 9) :: (5, .aload_n 0, 1, 0, 0, 0) :: (6, .iconst 1, 1, 0, 0, 0) :: (7, .putfield 117, 3, 4, 3, 10) :: (10, .aload_n 0, 1, 0, 0, 0) :: (11, .iconst 0, 1, 0, 0, 0) :: (12, .putfield 63, 3, 4, 0, 11) :: (15, .aload_n 0, 1, 0, 0, 0) :: (16, .iconst 0, 1, 0, 0, 0) :: (17, .putfield 121, 3, 4, 0, 12) :: (20, .aload_n 0, 1, 0, 0, 0) :: (21, .iconst 0, 1, 0, 0, 0) :: (22, .putfield 124, 3, 4, 0, 13) :: (25, .aload_n 0, 1, 0, 0, 0) :: (26, .iconst 0, 1, 0, 0, 0) :: (27, .putfield 127, 3, 4, 0, 14) :: (30, .aload_n 0, 1, 0, 0, 0) :: (31, .iconst 0, 1, 0, 0, 0) :: (32, .putfield 93, 3, 4, 0, 15) :: (35, .aload_n 0, 1, 0, 0, 0) :: (36, .getfield 26, 3, 4, 2, 2) :: (39, .invokevirtual 130, 3, 75, 1, 6) :: k_74_42
/-- PageInterpreter$Paths.begin()V -/
def k_75_0 : List CE := (0, .aload_n 0, 1, 0, 0, 0) :: (1, .iconst 0, 1, 0, 0, 0) :: (2, .putfield 28, 3, 5, 0, 5) :: (5, .aload_n 0, 1, 0, 0, 0) :: (6, .iconst 0, 1, 0, 0, 0) :: (7, .putfield 32, 3, 5, 0, 6) :: (10, .aload_n 0, 1, 0, 0, 0) :: (11, .getfield 22, 3, 5, 2, 3) :: (14, .iconst 0, 1, 0, 0, 0) :: (15, .iconst 0, 1, 0, 0, 0) :: (16, .iastore, 1, 0, 0, 0) :: (17, .aload_n 0, 1, 0, 0, 0) :: (18, .iconst 0, 1, 0, 0, 0) :: (19, .putfield 35, 3, 5, 3, 7) :: (22, .return_, 1, 0, 0, 0) :: []
/-- PageInterpreter$Graphics.begin()V -/
def k_76_0 : List CE := (0, .aload_n 0, 1, 0, 0, 0) :: (1, .getfield 9, 3, 8, 2, 0) :: (4, .iconst 0, 1, 0, 0, 0) :: (5, .ldc2_w 21, 3, 0, 0, 4294967297) :: (8, .lastore, 1, 0, 0, 0) :: (9, .aload_n 0, 1, 0, 0, 0) :: (10, .getfield 9, 3, 8, 2, 0) :: (13, .iconst 1, 1, 0, 0, 0) :: (14, .lconst 1, 1, 0, 0, 0) :: (15, .lastore, 1, 0, 0, 0) :: (16, .aload_n 0, 1, 0, 0, 0) :: (17, .getfield 9, 3, 8, 2, 0) :: (20, .iconst 2, 1, 0, 0, 0) :: (21, .lconst 1, 1, 0, 0, 0) :: (22, .lastore, 1, 0, 0, 0) :: (23, .aload_n 0, 1, 0, 0, 0) :: (24, .getfield 9, 3, 8, 2, 0) :: (27, .iconst 3, 1, 0, 0, 0) :: (28, .ldc2_w 21, 3, 0, 0, 4294967297) :: (31, .lastore, 1, 0, 0, 0) :: (32, .aload_n 0, 1, 0, 0, 0) :: (33, .getfield 9, 3, 8, 2, 0) :: (36, .iconst 4, 1, 0, 0, 0) :: (37, .lconst 1, 1, 0, 0, 0) :: (38, .lastore, 1, 0, 0, 0) :: (39, .aload_n 0, 1, 0, 0, 0) :: (40, .getfield 9, 3, 8, 2, 0) :: (43, .iconst 5, 1, 0, 0, 0) :: (44, .lconst 1, 1, 0, 0, 0) :: (45, .lastore, 1, 0, 0, 0) :: (46, .aload_n 0, 1, 0, 0, 0) :: (47, .iconst 0, 1, 0, 0, 0) :: (48, .putfield 23, 3, 8, 0, 2) :: (51, .aload_n 0, 1, 0, 0, 0) :: (52, .iconst 1, 1, 0, 0, 0) :: (53, .putfield 27, 3, 8, 0, 3) :: (56, .return_, 1, 0, 0, 0) :: []
/-- PageInterpreter$Frame.begin(ILPageInterpreter$Program;)V -/
def k_77_0 : List CE := (0, .aload_n 0, 1, 0, 0, 0) :: (1, .iload_n 1, 1, 0, 0, 0) :: (2, .putfield 22, 3, 7, 0, 4) :: (5, .aload_n 0, 1, 0, 0, 0) :: (6, .aload_n 2, 1, 0, 0, 0) :: (7, .putfield 26, 3, 7, 2, 3) :: (10, .aload_n 0, 1, 0, 0, 0) :: (11, .iconst 0, 1, 0, 0, 0) :: (12, .putfield 30, 3, 7, 0, 5) :: (15, .aload_n 0, 1, 0, 0, 0) :: (16, .iconst 0, 1, 0, 0, 0) :: (17, .putfield 33, 3, 7, 0, 6) :: (20, .aload_n 0, 1, 0, 0, 0) :: (21, .iconst 0, 1, 0, 0, 0) :: (22, .putfield 36, 3, 7, 0, 7) :: (25, .return_, 1, 0, 0, 0) :: []
/-- PageInterpreter$Frame.isAtEnd()Z -/
def k_78_33 : List CE := (33, .ireturn, 1, 1, 0, 0) :: []
def k_78_32 : List CE := (32, .iconst 0, 1, 0, 0, 0) :: k_78_33
def k_78_28 : List CE := (28, .iconst 1, 1, 0, 0, 0) :: (29, .goto 4, 3, 0, 0, 0) :: k_78_32
def k_78_0 : List CE := (0, .aload_n 0, 1, 0, 0, 0) :: (1, .getfield 26, 3, 7, 2, 3) :: (4, .ifnull 24, 3, 0, 0, 0) :: (7, .aload_n 0, 1, 0, 0, 0) :: (8, .getfield 30, 3, 7, 0, 5) :: (11, .ifCond .lt 17, 3, 0, 0, 0) :: (14, .aload_n 0, 1, 0, 0, 0) :: (15, .getfield 30, 3, 7, 0, 5) :: (18, .aload_n 0, 1, 0, 0, 0) :: (19, .getfield 26, 3, 7, 2, 3) :: (22, .getfield 39, 3, 9, 0, 3) :: (25, .if_icmp .lt 7, 3, 0, 0, 0) :: k_78_28
/-- PageInterpreter$Machine.leaveForm()V -/
def k_79_21 : List CE := (21, .return_, 1, 0, 0, 0) :: []
def k_79_0 : List CE := (0, .aload_n 0, 1, 0, 0, 0) :: (1, .getfield 63, 3, 4, 0, 11) :: (4, .ifCond .le 17, 3, 0, 0, 0) :: (7, .aload_n 0, 1, 0, 0, 0) :: (8, .dup, 1, 0, 0, 0) :: (9, .getfield 63, 3, 4, 0, 11) :: (12, .iconst 1, 1, 0, 0, 0) :: (13, .isub, 1, 0, 0, 0) :: (14, .putfield 63, 3, 4, 0, 11) :: (17, .aload_n 0, 1, 0, 0, 0) :: (18, .invokevirtual 144, 3, 80, 1, 5) :: k_79_21
/-- PageInterpreter$Machine.popGraphics()V -/
def k_80_17 : List CE := (17, .return_, 1, 0, 0, 0) :: []
def k_80_0 : List CE := (0, .aload_n 0, 1, 0, 0, 0) :: (1, .getfield 121, 3, 4, 0, 12) :: (4, .ifCond .le 13, 3, 0, 0, 0) :: (7, .aload_n 0, 1, 0, 0, 0) :: (8, .dup, 1, 0, 0, 0) :: (9, .getfield 121, 3, 4, 0, 12) :: (12, .iconst 1, 1, 0, 0, 0) :: (13, .isub, 1, 0, 0, 0) :: (14, .putfield 121, 3, 4, 0, 12) :: k_80_17
/-- PageInterpreter$Frame.presentOperator()LPageInterpreter$Operator; -/
def k_81_23 : List CE := (23, .areturn, 1, 0, 0, 0) :: []
def k_81_11 : List CE := (11, .aload_n 0, 1, 0, 0, 0) :: (12, .getfield 26, 3, 7, 2, 3) :: (15, .getfield 48, 3, 9, 2, 0) :: (18, .aload_n 0, 1, 0, 0, 0) :: (19, .getfield 30, 3, 7, 0, 5) :: (22, .aaload, 1, 0, 0, 0) :: k_81_23
def k_81_4 : List CE := (4, .ifCond .eq 7, 3, 0, 0, 0) :: (7, .aconst_null, 1, 0, 0, 0) :: (8, .goto 15, 3, 0, 0, 0) :: k_81_11
def k_81_0 : List CE := (0, .aload_n 0, 1, 0, 0, 0) :: (1, .invokevirtual 44, 3, 78, 1, 8) :: k_81_4
/-- PageInterpreter$Frame.passNext()V -/
def k_82_84 : List CE := (84, .return_, 1, 0, 0, 0) :: []
def k_82_74 : List CE := (74, .aload_n 0, 1, 0, 0, 0) :: (75, .dup, 1, 0, 0, 0) :: (76, .getfield 36, 3, 7, 0, 7) :: (79, .iconst 1, 1, 0, 0, 0) :: (80, .isub, 1, 0, 0, 0) :: (81, .putfield 36, 3, 7, 0, 7) :: k_82_84
def k_82_27 : List CE := (27, .aload_n 0, 1, 0, 0, 0) :: (28, .getfield 19, 3, 7, 2, 2) :: (31, .aload_n 0, 1, 0, 0, 0) :: (32, .getfield 36, 3, 7, 0, 7) :: (35, .iconst 1, 1, 0, 0, 0) :: (36, .isub, 1, 0, 0, 0) :: (37, .dup2, 1, 0, 0, 0) :: (38, .iaload, 1, 0, 0, 0) :: (39, .iconst 1, 1, 0, 0, 0) :: (40, .isub, 1, 0, 0, 0) :: (41, .iastore, 1, 0, 0, 0) :: (42, .aload_n 0, 1, 0, 0, 0) :: (43, .getfield 19, 3, 7, 2, 2) :: (46, .aload_n 0, 1, 0, 0, 0) :: (47, .getfield 36, 3, 7, 0, 7) :: (50, .iconst 1, 1, 0, 0, 0) :: (51, .isub, 1, 0, 0, 0) :: (52, .iaload, 1, 0, 0, 0) :: (53, .ifCond .le 21, 3, 0, 0, 0) :: (56, .aload_n 0, 1, 0, 0, 0) :: (57, .aload_n 0, 1, 0, 0, 0) :: (58, .getfield 15, 3, 7, 2, 1) :: (61, .aload_n 0, 1, 0, 0, 0) :: (62, .getfield 36, 3, 7, 0, 7) :: (65, .iconst 1, 1, 0, 0, 0) :: (66, .isub, 1, 0, 0, 0) :: (67, .iaload, 1, 0, 0, 0) :: (68, .putfield 30, 3, 7, 0, 5) :: (71, .goto 13, 3, 0, 0, 0) :: k_82_74
def k_82_26 : List CE := (26, .return_, 1, 0, 0, 0) :: k_82_27
def k_82_0 : List CE := (0, .aload_n 0, 1, 0, 0, 0) :: (1, .dup, 1, 0, 0, 0) :: (2, .getfield 30, 3, 7, 0, 5) :: (5, .iconst 1, 1, 0, 0, 0) :: (6, .iadd, 1, 0, 0, 0) :: (7, .putfield 30, 3, 7, 0, 5) :: (10, .aload_n 0, 1, 0, 0, 0) :: (11, .getfield 36, 3, 7, 0, 7) :: (14, .iconst 1, 1, 0, 0, 0) :: (15, .if_icmp .lt 11, 3, 0, 0, 0) :: (18, .aload_n 0, 1, 0, 0, 0) :: (19, .getfield 36, 3, 7, 0, 7) :: (22, .iconst 3, 1, 0, 0, 0) :: (23, .if_icmp .le 4, 3, 0, 0, 0) :: k_82_26
/-- PageInterpreter$Frame.pushLiteral()Z -/
def k_83_32 : List CE := (32, .aload_n 0, 1, 0, 0, 0) :: (33, .dup, 1, 0, 0, 0) :: (34, .getfield 30, 3, 7, 0, 5) :: (37, .iconst 1, 1, 0, 0, 0) :: (38, .iadd, 1, 0, 0, 0) :: (39, .putfield 30, 3, 7, 0, 5) :: (42, .iconst 1, 1, 0, 0, 0) :: (43, .ireturn, 1, 1, 0, 0) :: []
def k_83_16 : List CE := (16, .aload_n 0, 1, 0, 0, 0) :: (17, .aload_n 0, 1, 0, 0, 0) :: (18, .getfield 26, 3, 7, 2, 3) :: (21, .getfield 55, 3, 9, 2, 1) :: (24, .aload_n 0, 1, 0, 0, 0) :: (25, .getfield 30, 3, 7, 0, 5) :: (28, .laload, 1, 0, 0, 0) :: (29, .invokevirtual 58, 3, 85, 2, 8) :: k_83_32
def k_83_14 : List CE := (14, .iconst 0, 1, 0, 0, 0) :: (15, .ireturn, 1, 1, 0, 0) :: k_83_16
def k_83_11 : List CE := (11, .ifCond .eq 5, 3, 0, 0, 0) :: k_83_14
def k_83_4 : List CE := (4, .ifCond .ne 10, 3, 0, 0, 0) :: (7, .aload_n 0, 1, 0, 0, 0) :: (8, .invokevirtual 44, 3, 78, 1, 8) :: k_83_11
def k_83_0 : List CE := (0, .aload_n 0, 1, 0, 0, 0) :: (1, .invokevirtual 52, 3, 84, 1, 8) :: k_83_4
/-- PageInterpreter$Frame.isFull()Z -/
def k_84_14 : List CE := (14, .ireturn, 1, 1, 0, 0) :: []
def k_84_13 : List CE := (13, .iconst 0, 1, 0, 0, 0) :: k_84_14
def k_84_0 : List CE := (0, .aload_n 0, 1, 0, 0, 0) :: (1, .getfield 33, 3, 7, 0, 6) :: (4, .bipush 16, 2, 0, 0, 0) :: (6, .if_icmp .lt 7, 3, 0, 0, 0) :: (9, .iconst 1, 1, 0, 0, 0) :: (10, .goto 4, 3, 0, 0, 0) :: k_84_13
/-- PageInterpreter$Frame.push(J)V -/
def k_85_36 : List CE := (36, .return_, 1, 0, 0, 0) :: []
def k_85_0 : List CE := (0, .aload_n 0, 1, 0, 0, 0) :: (1, .getfield 33, 3, 7, 0, 6) :: (4, .ifCond .lt 32, 3, 0, 0, 0) :: (7, .aload_n 0, 1, 0, 0, 0) :: (8, .getfield 33, 3, 7, 0, 6) :: (11, .bipush 16, 2, 0, 0, 0) :: (13, .if_icmp .ge 23, 3, 0, 0, 0) :: (16, .aload_n 0, 1, 0, 0, 0) :: (17, .getfield 9, 3, 7, 2, 0) :: (20, .aload_n 0, 1, 0, 0, 0) :: (21, .getfield 33, 3, 7, 0, 6) :: (24, .lload_n 1, 1, 0, 0, 0) :: (25, .lastore, 1, 0, 0, 0) :: (26, .aload_n 0, 1, 0, 0, 0) :: (27, .dup, 1, 0, 0, 0) :: (28, .getfield 33, 3, 7, 0, 6) :: (31, .iconst 1, 1, 0, 0, 0) :: (32, .iadd, 1, 0, 0, 0) :: (33, .putfield 33, 3, 7, 0, 6) :: k_85_36
/-- PageInterpreter$Machine.perform(LPageInterpreter$Operator;LPageInterpreter$Frame;I)I -/
def k_86_260 : List CE := (260, .iconst 0, 1, 0, 0, 0) :: (261, .ireturn, 1, 0, 0, 0) :: []
def k_86_259 : List CE := (259, .ireturn, 1, 0, 0, 0) :: k_86_260
def k_86_253 : List CE := (253, .aload_n 0, 1, 0, 0, 0) :: (254, .aload_n 1, 1, 0, 0, 0) :: (255, .aload_n 2, 1, 0, 0, 0) :: (256, .invokevirtual 212, 3, 126, 3, 5) :: k_86_259
def k_86_251 : List CE := (251, .iconst 0, 1, 0, 0, 0) :: (252, .ireturn, 1, 0, 0, 0) :: k_86_253
def k_86_246 : List CE := (246, .aload_n 0, 1, 0, 0, 0) :: (247, .aload_n 2, 1, 0, 0, 0) :: (248, .invokevirtual 208, 3, 125, 2, 5) :: k_86_251
def k_86_244 : List CE := (244, .iconst 0, 1, 0, 0, 0) :: (245, .ireturn, 1, 0, 0, 0) :: k_86_246
def k_86_239 : List CE := (239, .aload_n 2, 1, 0, 0, 0) :: (240, .iconst 1, 1, 0, 0, 0) :: (241, .invokevirtual 204, 3, 96, 2, 8) :: k_86_244
def k_86_238 : List CE := (238, .ireturn, 1, 0, 0, 0) :: k_86_239
def k_86_233 : List CE := (233, .aload_n 0, 1, 0, 0, 0) :: (234, .aload_n 2, 1, 0, 0, 0) :: (235, .invokevirtual 201, 3, 124, 2, 5) :: k_86_238
def k_86_232 : List CE := (232, .ireturn, 1, 0, 0, 0) :: k_86_233
def k_86_226 : List CE := (226, .aload_n 0, 1, 0, 0, 0) :: (227, .aload_n 2, 1, 0, 0, 0) :: (228, .iload_n 3, 1, 0, 0, 0) :: (229, .invokevirtual 197, 3, 121, 3, 5) :: k_86_232
def k_86_225 : List CE := (225, .ireturn, 1, 0, 0, 0) :: k_86_226
def k_86_220 : List CE := (220, .aload_n 0, 1, 0, 0, 0) :: (221, .aload_n 2, 1, 0, 0, 0) :: (222, .invokevirtual 194, 3, 118, 2, 5) :: k_86_225
def k_86_219 : List CE := (219, .ireturn, 1, 0, 0, 0) :: k_86_220
def k_86_214 : List CE := (214, .aload_n 0, 1, 0, 0, 0) :: (215, .aload_n 2, 1, 0, 0, 0) :: (216, .invokevirtual 191, 3, 114, 2, 5) :: k_86_219
def k_86_213 : List CE := (213, .ireturn, 1, 0, 0, 0) :: k_86_214
def k_86_203 : List CE := (203, .aload_n 0, 1, 0, 0, 0) :: (204, .aload_n 1, 1, 0, 0, 0) :: (205, .aload_n 2, 1, 0, 0, 0) :: (206, .getfield 100, 3, 7, 0, 4) :: (209, .iload_n 3, 1, 0, 0, 0) :: (210, .invokevirtual 187, 3, 108, 4, 5) :: k_86_213
def k_86_201 : List CE := (201, .iconst 0, 1, 0, 0, 0) :: (202, .ireturn, 1, 0, 0, 0) :: k_86_203
def k_86_198 : List CE := (198, .invokevirtual 183, 3, 107, 2, 6) :: k_86_201
def k_86_197 : List CE := (197, .iconst 0, 1, 0, 0, 0) :: k_86_198
def k_86_182 : List CE := (182, .aload_n 0, 1, 0, 0, 0) :: (183, .getfield 26, 3, 4, 2, 2) :: (186, .aload_n 1, 1, 0, 0, 0) :: (187, .getstatic 180, 3, 11, 2, 0) :: (190, .if_acmp .ne 7, 3, 0, 0, 0) :: (193, .iconst 1, 1, 0, 0, 0) :: (194, .goto 4, 3, 0, 0, 0) :: k_86_197
def k_86_181 : List CE := (181, .ireturn, 1, 0, 0, 0) :: k_86_182
def k_86_176 : List CE := (176, .aload_n 0, 1, 0, 0, 0) :: (177, .aload_n 2, 1, 0, 0, 0) :: (178, .invokevirtual 177, 3, 104, 2, 5) :: k_86_181
def k_86_175 : List CE := (175, .ireturn, 1, 0, 0, 0) :: k_86_176
def k_86_172 : List CE := (172, .invokevirtual 173, 3, 97, 3, 5) :: k_86_175
def k_86_171 : List CE := (171, .iconst 0, 1, 0, 0, 0) :: k_86_172
def k_86_158 : List CE := (158, .aload_n 0, 1, 0, 0, 0) :: (159, .aload_n 2, 1, 0, 0, 0) :: (160, .aload_n 1, 1, 0, 0, 0) :: (161, .getstatic 170, 3, 6, 2, 0) :: (164, .if_acmp .ne 7, 3, 0, 0, 0) :: (167, .iconst 1, 1, 0, 0, 0) :: (168, .goto 4, 3, 0, 0, 0) :: k_86_171
def k_86_157 : List CE := (157, .ireturn, 1, 0, 0, 0) :: k_86_158
def k_86_152 : List CE := (152, .aload_n 0, 1, 0, 0, 0) :: (153, .aload_n 2, 1, 0, 0, 0) :: (154, .invokevirtual 166, 3, 91, 2, 5) :: k_86_157
def k_86_150 : List CE := (150, .iconst 0, 1, 0, 0, 0) :: (151, .ireturn, 1, 0, 0, 0) :: k_86_152
def k_86_146 : List CE := (146, .aload_n 0, 1, 0, 0, 0) :: (147, .invokevirtual 144, 3, 80, 1, 5) :: k_86_150
def k_86_144 : List CE := (144, .iconst 0, 1, 0, 0, 0) :: (145, .ireturn, 1, 0, 0, 0) :: k_86_146
def k_86_140 : List CE := (140, .aload_n 0, 1, 0, 0, 0) :: (141, .invokevirtual 163, 3, 89, 1, 5) :: k_86_144
def k_86_33 : List CE := (33, .iaload, 1, 0, 0, 0) :: (34, .tableswitch 226 1 23 #[106, 192, 112, 226, 124, 142, 124, 226, 148, 148, 169, 169, 169, 118, 180, 186, 199, 205, 212, 219, 219, 219, 219], 106, 0, 0, 0) :: k_86_140
def k_86_26 : List CE := (26, .getstatic 154, 3, 1, 2, 0) :: (29, .aload_n 1, 1, 0, 0, 0) :: (30, .invokevirtual 159, 3, 42, 1, 41) :: k_86_33
def k_86_21 : List CE := (21, .ifCond .ne 5, 3, 0, 0, 0) :: (24, .iconst 2, 1, 0, 0, 0) :: (25, .ireturn, 1, 0, 0, 0) :: k_86_26
def k_86_16 : List CE := (16, .aload_n 2, 1, 0, 0, 0) :: (17, .aload_n 1, 1, 0, 0, 0) :: (18, .invokevirtual 150, 3, 87, 2, 8) :: k_86_21
def k_86_0 : List CE := (0, .aload_n 0, 1, 0, 0, 0) :: (1, .getfield 124, 3, 4, 0, 13) :: (4, .aload_n 0, 1, 0, 0, 0) :: (5, .getfield 113, 3, 4, 2, 9) :: (8, .getfield 147, 3, 3, 0, 6) :: (11, .if_icmp .lt 5, 3, 0, 0, 0) :: (14, .iconst 1, 1, 0, 0, 0) :: (15, .ireturn, 1, 0, 0, 0) :: k_86_16
/-- PageInterpreter$Frame.hasOperandsOf(LPageInterpreter$Operator;)Z -/
def k_87_49 : List CE := (49, .iconst 1, 1, 0, 0, 0) :: (50, .ireturn, 1, 1, 0, 0) :: []
def k_87_43 : List CE := (43, .iinc 2 1, 3, 0, 0, 0) :: (46, .goto (-31), 3, 0, 0, 0) :: k_87_49
def k_87_38 : List CE := (38, .ifCond .ne 5, 3, 0, 0, 0) :: (41, .iconst 0, 1, 0, 0, 0) :: (42, .ireturn, 1, 1, 0, 0) :: k_87_43
def k_87_35 : List CE := (35, .invokestatic 78, 3, 31, 1, 0) :: k_87_38
def k_87_15 : List CE := (15, .aload_n 1, 1, 0, 0, 0) :: (16, .getfield 70, 3, 40, 3, 3) :: (19, .ifCond .eq 30, 3, 0, 0, 0) :: (22, .iload_n 2, 1, 0, 0, 0) :: (23, .aload_n 1, 1, 0, 0, 0) :: (24, .getfield 66, 3, 40, 0, 2) :: (27, .if_icmp .ge 22, 3, 0, 0, 0) :: (30, .aload_n 0, 1, 0, 0, 0) :: (31, .iload_n 2, 1, 0, 0, 0) :: (32, .invokevirtual 74, 3, 88, 2, 8) :: k_87_35
def k_87_13 : List CE := (13, .iconst 0, 1, 0, 0, 0) :: (14, .istore_n 2, 1, 0, 0, 0) :: k_87_15
def k_87_0 : List CE := (0, .aload_n 0, 1, 0, 0, 0) :: (1, .getfield 33, 3, 7, 0, 6) :: (4, .aload_n 1, 1, 0, 0, 0) :: (5, .getfield 66, 3, 40, 0, 2) :: (8, .if_icmp .ge 5, 3, 0, 0, 0) :: (11, .iconst 0, 1, 0, 0, 0) :: (12, .ireturn, 1, 1, 0, 0) :: k_87_13
/-- PageInterpreter$Frame.peek(I)J -/
def k_88_31 : List CE := (31, .lreturn, 1, 0, 0, 0) :: []
def k_88_28 : List CE := (28, .ldc2_w 64, 3, 0, 0, (-1)) :: k_88_31
def k_88_0 : List CE := (0, .aload_n 0, 1, 0, 0, 0) :: (1, .getfield 33, 3, 7, 0, 6) :: (4, .iconst 1, 1, 0, 0, 0) :: (5, .isub, 1, 0, 0, 0) :: (6, .iload_n 1, 1, 0, 0, 0) :: (7, .isub, 1, 0, 0, 0) :: (8, .istore_n 2, 1, 0, 0, 0) :: (9, .iload_n 2, 1, 0, 0, 0) :: (10, .ifCond .lt 18, 3, 0, 0, 0) :: (13, .iload_n 2, 1, 0, 0, 0) :: (14, .bipush 16, 2, 0, 0, 0) :: (16, .if_icmp .ge 12, 3, 0, 0, 0) :: (19, .aload_n 0, 1, 0, 0, 0) :: (20, .getfield 9, 3, 7, 2, 0) :: (23, .iload_n 2, 1, 0, 0, 0) :: (24, .laload, 1, 0, 0, 0) :: (25, .goto 6, 3, 0, 0, 0) :: k_88_28
/-- PageInterpreter$Machine.pushGraphics()V -/
def k_89_44 : List CE := (44, .return_, 1, 0, 0, 0) :: []
def k_89_34 : List CE := (34, .aload_n 0, 1, 0, 0, 0) :: (35, .dup, 1, 0, 0, 0) :: (36, .getfield 121, 3, 4, 0, 12) :: (39, .iconst 1, 1, 0, 0, 0) :: (40, .iadd, 1, 0, 0, 0) :: (41, .putfield 121, 3, 4, 0, 12) :: k_89_44
def k_89_0 : List CE := (0, .aload_n 0, 1, 0, 0, 0) :: (1, .getfield 121, 3, 4, 0, 12) :: (4, .iconst 1, 1, 0, 0, 0) :: (5, .iadd, 1, 0, 0, 0) :: (6, .bipush 35, 2, 0, 0, 0) :: (8, .if_icmp .ge 36, 3, 0, 0, 0) :: (11, .aload_n 0, 1, 0, 0, 0) :: (12, .getfield 19, 3, 4, 2, 1) :: (15, .aload_n 0, 1, 0, 0, 0) :: (16, .getfield 121, 3, 4, 0, 12) :: (19, .iconst 1, 1, 0, 0, 0) :: (20, .iadd, 1, 0, 0, 0) :: (21, .aaload, 1, 0, 0, 0) :: (22, .aload_n 0, 1, 0, 0, 0) :: (23, .getfield 19, 3, 4, 2, 1) :: (26, .aload_n 0, 1, 0, 0, 0) :: (27, .getfield 121, 3, 4, 0, 12) :: (30, .aaload, 1, 0, 0, 0) :: (31, .invokevirtual 216, 3, 90, 2, 9) :: k_89_34
/-- PageInterpreter$Graphics.copyFrom(LPageInterpreter$Graphics;)V -/
def k_90_0 : List CE := (0, .aload_n 1, 1, 0, 0, 0) :: (1, .getfield 9, 3, 8, 2, 0) :: (4, .iconst 0, 1, 0, 0, 0) :: (5, .aload_n 0, 1, 0, 0, 0) :: (6, .getfield 9, 3, 8, 2, 0) :: (9, .iconst 0, 1, 0, 0, 0) :: (10, .bipush 6, 2, 0, 0, 0) :: (12, .invokestatic 30, 3, 0, 0, (-2)) :: (15, .aload_n 1, 1, 0, 0, 0) :: (16, .getfield 15, 3, 8, 2, 1) :: (19, .iconst 0, 1, 0, 0, 0) :: (20, .aload_n 0, 1, 0, 0, 0) :: (21, .getfield 15, 3, 8, 2, 1) :: (24, .iconst 0, 1, 0, 0, 0) :: (25, .bipush 6, 2, 0, 0, 0) :: (27, .invokestatic 30, 3, 0, 0, (-2)) :: (30, .aload_n 0, 1, 0, 0, 0) :: (31, .aload_n 1, 1, 0, 0, 0) :: (32, .getfield 23, 3, 8, 0, 2) :: (35, .putfield 23, 3, 8, 0, 2) :: (38, .aload_n 0, 1, 0, 0, 0) :: (39, .aload_n 1, 1, 0, 0, 0) :: (40, .getfield 27, 3, 8, 0, 3) :: (43, .putfield 27, 3, 8, 0, 3) :: (46, .return_, 1, 0, 0, 0) :: []
/-- PageInterpreter$Machine.concat(LPageInterpreter$Frame;)I -/
def k_91_169 : List CE := (169, .iconst 0, 1, 0, 0, 0) :: (170, .ireturn, 1, 0, 0, 0) :: []
def k_91_151 : List CE := (151, .aload_n 0, 1, 0, 0, 0) :: (152, .getfield 49, 3, 4, 2, 7) :: (155, .iconst 0, 1, 0, 0, 0) :: (156, .aload_n 2, 1, 0, 0, 0) :: (157, .iconst 0, 1, 0, 0, 0) :: (158, .bipush 6, 2, 0, 0, 0) :: (160, .invokestatic 240, 3, 0, 0, (-2)) :: (163, .aload_n 1, 1, 0, 0, 0) :: (164, .bipush 6, 2, 0, 0, 0) :: (166, .invokevirtual 204, 3, 96, 2, 8) :: k_91_169
def k_91_144 : List CE := (144, .iload_n 3, 1, 0, 0, 0) :: (145, .ifCond .ne 6, 3, 0, 0, 0) :: (148, .bipush 6, 2, 0, 0, 0) :: (150, .ireturn, 1, 0, 0, 0) :: k_91_151
def k_91_137 : List CE := (137, .istore_n 3, 1, 0, 0, 0) :: (138, .iinc 4 1, 3, 0, 0, 0) :: (141, .goto (-123), 3, 0, 0, 0) :: k_91_144
def k_91_136 : List CE := (136, .iconst 0, 1, 0, 0, 0) :: k_91_137
def k_91_129 : List CE := (129, .ifCond .eq 7, 3, 0, 0, 0) :: (132, .iconst 1, 1, 0, 0, 0) :: (133, .goto 4, 3, 0, 0, 0) :: k_91_136
def k_91_115 : List CE := (115, .iload_n 3, 1, 0, 0, 0) :: (116, .ifCond .eq 20, 3, 0, 0, 0) :: (119, .aload_n 0, 1, 0, 0, 0) :: (120, .getfield 49, 3, 4, 2, 7) :: (123, .iload 4, 2, 0, 0, 0) :: (125, .laload, 1, 0, 0, 0) :: (126, .invokestatic 236, 3, 31, 1, 0) :: k_91_129
def k_91_114 : List CE := (114, .lastore, 1, 0, 0, 0) :: k_91_115
def k_91_87 : List CE := (87, .lastore, 1, 0, 0, 0) :: (88, .iload 5, 2, 0, 0, 0) :: (90, .iconst 4, 1, 0, 0, 0) :: (91, .if_icmp .ne 24, 3, 0, 0, 0) :: (94, .aload_n 0, 1, 0, 0, 0) :: (95, .getfield 49, 3, 4, 2, 7) :: (98, .iload 4, 2, 0, 0, 0) :: (100, .aload_n 0, 1, 0, 0, 0) :: (101, .getfield 49, 3, 4, 2, 7) :: (104, .iload 4, 2, 0, 0, 0) :: (106, .laload, 1, 0, 0, 0) :: (107, .aload_n 2, 1, 0, 0, 0) :: (108, .iload 4, 2, 0, 0, 0) :: (110, .laload, 1, 0, 0, 0) :: (111, .invokestatic 233, 3, 95, 2, 0) :: k_91_114
def k_91_72 : List CE := (72, .lstore 8, 2, 0, 0, 0) :: (74, .aload_n 0, 1, 0, 0, 0) :: (75, .getfield 49, 3, 4, 2, 7) :: (78, .iload 4, 2, 0, 0, 0) :: (80, .lload 6, 2, 0, 0, 0) :: (82, .lload 8, 2, 0, 0, 0) :: (84, .invokestatic 233, 3, 95, 2, 0) :: k_91_87
def k_91_61 : List CE := (61, .aload_n 2, 1, 0, 0, 0) :: (62, .iload 4, 2, 0, 0, 0) :: (64, .iconst 2, 1, 0, 0, 0) :: (65, .irem, 1, 0, 0, 0) :: (66, .iconst 2, 1, 0, 0, 0) :: (67, .iadd, 1, 0, 0, 0) :: (68, .laload, 1, 0, 0, 0) :: (69, .invokestatic 227, 3, 92, 2, 0) :: k_91_72
def k_91_51 : List CE := (51, .lstore 6, 2, 0, 0, 0) :: (53, .aload_n 1, 1, 0, 0, 0) :: (54, .iconst 4, 1, 0, 0, 0) :: (55, .iload 5, 2, 0, 0, 0) :: (57, .isub, 1, 0, 0, 0) :: (58, .invokevirtual 223, 3, 88, 2, 8) :: k_91_61
def k_91_42 : List CE := (42, .aload_n 2, 1, 0, 0, 0) :: (43, .iload 4, 2, 0, 0, 0) :: (45, .iconst 2, 1, 0, 0, 0) :: (46, .irem, 1, 0, 0, 0) :: (47, .laload, 1, 0, 0, 0) :: (48, .invokestatic 227, 3, 92, 2, 0) :: k_91_51
def k_91_18 : List CE := (18, .iload 4, 2, 0, 0, 0) :: (20, .bipush 6, 2, 0, 0, 0) :: (22, .if_icmp .ge 122, 3, 0, 0, 0) :: (25, .iload 4, 2, 0, 0, 0) :: (27, .iload 4, 2, 0, 0, 0) :: (29, .iconst 2, 1, 0, 0, 0) :: (30, .irem, 1, 0, 0, 0) :: (31, .isub, 1, 0, 0, 0) :: (32, .istore 5, 2, 0, 0, 0) :: (34, .aload_n 1, 1, 0, 0, 0) :: (35, .iconst 5, 1, 0, 0, 0) :: (36, .iload 5, 2, 0, 0, 0) :: (38, .isub, 1, 0, 0, 0) :: (39, .invokevirtual 223, 3, 88, 2, 8) :: k_91_42
def k_91_0 : List CE := (0, .aload_n 0, 1, 0, 0, 0) :: (1, .getfield 19, 3, 4, 2, 1) :: (4, .aload_n 0, 1, 0, 0, 0) :: (5, .getfield 121, 3, 4, 0, 12) :: (8, .aaload, 1, 0, 0, 0) :: (9, .getfield 220, 3, 8, 2, 0) :: (12, .astore_n 2, 1, 0, 0, 0) :: (13, .iconst 1, 1, 0, 0, 0) :: (14, .istore_n 3, 1, 0, 0, 0) :: (15, .iconst 0, 1, 0, 0, 0) :: (16, .istore 4, 2, 0, 0, 0) :: k_91_18
/-- PageInterpreter$Fraction.product(JJ)J -/
def k_92_47 : List CE := (47, .lreturn, 1, 0, 0, 0) :: []
def k_92_42 : List CE := (42, .i2l, 1, 0, 0, 0) :: (43, .lmul, 1, 0, 0, 0) :: (44, .invokestatic 26, 3, 30, 2, 0) :: k_92_47
def k_92_37 : List CE := (37, .i2l, 1, 0, 0, 0) :: (38, .lload_n 2, 1, 0, 0, 0) :: (39, .invokestatic 9, 3, 94, 1, 0) :: k_92_42
def k_92_27 : List CE := (27, .i2l, 1, 0, 0, 0) :: (28, .lmul, 1, 0, 0, 0) :: (29, .lstore 4, 2, 0, 0, 0) :: (31, .lload 4, 2, 0, 0, 0) :: (33, .lload_n 0, 1, 0, 0, 0) :: (34, .invokestatic 9, 3, 94, 1, 0) :: k_92_37
def k_92_22 : List CE := (22, .i2l, 1, 0, 0, 0) :: (23, .lload_n 2, 1, 0, 0, 0) :: (24, .invokestatic 13, 3, 93, 1, 0) :: k_92_27
def k_92_18 : List CE := (18, .lload_n 0, 1, 0, 0, 0) :: (19, .invokestatic 13, 3, 93, 1, 0) :: k_92_22
def k_92_14 : List CE := (14, .ldc2_w 16, 3, 0, 0, (-1)) :: (17, .lreturn, 1, 0, 0, 0) :: k_92_18
def k_92_11 : List CE := (11, .ifCond .ne 7, 3, 0, 0, 0) :: k_92_14
def k_92_4 : List CE := (4, .ifCond .eq 10, 3, 0, 0, 0) :: (7, .lload_n 2, 1, 0, 0, 0) :: (8, .invokestatic 22, 3, 31, 1, 0) :: k_92_11
def k_92_0 : List CE := (0, .lload_n 0, 1, 0, 0, 0) :: (1, .invokestatic 22, 3, 31, 1, 0) :: k_92_4
/-- PageInterpreter$Fraction.numerator(J)I -/
def k_93_0 : List CE := (0, .lload_n 0, 1, 0, 0, 0) :: (1, .bipush 32, 2, 0, 0, 0) :: (3, .lshr, 1, 0, 0, 0) :: (4, .l2i, 1, 0, 0, 0) :: (5, .ireturn, 1, 0, 0, 0) :: []
/-- PageInterpreter$Fraction.denominator(J)I -/
def k_94_0 : List CE := (0, .lload_n 0, 1, 0, 0, 0) :: (1, .l2i, 1, 0, 0, 0) :: (2, .ireturn, 1, 0, 0, 0) :: []
/-- PageInterpreter$Fraction.sum(JJ)J -/
def k_95_63 : List CE := (63, .lreturn, 1, 0, 0, 0) :: []
def k_95_58 : List CE := (58, .i2l, 1, 0, 0, 0) :: (59, .lmul, 1, 0, 0, 0) :: (60, .invokestatic 26, 3, 30, 2, 0) :: k_95_63
def k_95_53 : List CE := (53, .i2l, 1, 0, 0, 0) :: (54, .lload_n 2, 1, 0, 0, 0) :: (55, .invokestatic 9, 3, 94, 1, 0) :: k_95_58
def k_95_40 : List CE := (40, .i2l, 1, 0, 0, 0) :: (41, .lmul, 1, 0, 0, 0) :: (42, .lstore 6, 2, 0, 0, 0) :: (44, .lload 4, 2, 0, 0, 0) :: (46, .lload 6, 2, 0, 0, 0) :: (48, .ladd, 1, 0, 0, 0) :: (49, .lload_n 0, 1, 0, 0, 0) :: (50, .invokestatic 9, 3, 94, 1, 0) :: k_95_53
def k_95_35 : List CE := (35, .i2l, 1, 0, 0, 0) :: (36, .lload_n 0, 1, 0, 0, 0) :: (37, .invokestatic 9, 3, 94, 1, 0) :: k_95_40
def k_95_27 : List CE := (27, .i2l, 1, 0, 0, 0) :: (28, .lmul, 1, 0, 0, 0) :: (29, .lstore 4, 2, 0, 0, 0) :: (31, .lload_n 2, 1, 0, 0, 0) :: (32, .invokestatic 13, 3, 93, 1, 0) :: k_95_35
def k_95_22 : List CE := (22, .i2l, 1, 0, 0, 0) :: (23, .lload_n 2, 1, 0, 0, 0) :: (24, .invokestatic 9, 3, 94, 1, 0) :: k_95_27
def k_95_18 : List CE := (18, .lload_n 0, 1, 0, 0, 0) :: (19, .invokestatic 13, 3, 93, 1, 0) :: k_95_22
def k_95_14 : List CE := (14, .ldc2_w 16, 3, 0, 0, (-1)) :: (17, .lreturn, 1, 0, 0, 0) :: k_95_18
def k_95_11 : List CE := (11, .ifCond .ne 7, 3, 0, 0, 0) :: k_95_14
def k_95_4 : List CE := (4, .ifCond .eq 10, 3, 0, 0, 0) :: (7, .lload_n 2, 1, 0, 0, 0) :: (8, .invokestatic 22, 3, 31, 1, 0) :: k_95_11
def k_95_0 : List CE := (0, .lload_n 0, 1, 0, 0, 0) :: (1, .invokestatic 22, 3, 31, 1, 0) :: k_95_4
/-- PageInterpreter$Frame.remove(I)V -/
def k_96_19 : List CE := (19, .putfield 33, 3, 7, 0, 6) :: (22, .return_, 1, 0, 0, 0) :: []
def k_96_18 : List CE := (18, .iconst 0, 1, 0, 0, 0) :: k_96_19
def k_96_0 : List CE := (0, .aload_n 0, 1, 0, 0, 0) :: (1, .iload_n 1, 1, 0, 0, 0) :: (2, .aload_n 0, 1, 0, 0, 0) :: (3, .getfield 33, 3, 7, 0, 6) :: (6, .if_icmp .ge 12, 3, 0, 0, 0) :: (9, .aload_n 0, 1, 0, 0, 0) :: (10, .getfield 33, 3, 7, 0, 6) :: (13, .iload_n 1, 1, 0, 0, 0) :: (14, .isub, 1, 0, 0, 0) :: (15, .goto 4, 3, 0, 0, 0) :: k_96_18
/-- PageInterpreter$Machine.addPoint(LPageInterpreter$Frame;Z)I -/
def k_97_97 : List CE := (97, .iconst 0, 1, 0, 0, 0) :: (98, .ireturn, 1, 0, 0, 0) :: []
def k_97_92 : List CE := (92, .aload_n 1, 1, 0, 0, 0) :: (93, .iconst 2, 1, 0, 0, 0) :: (94, .invokevirtual 204, 3, 96, 2, 8) :: k_97_97
def k_97_81 : List CE := (81, .aload_n 0, 1, 0, 0, 0) :: (82, .getfield 26, 3, 4, 2, 2) :: (85, .iload_n 3, 1, 0, 0, 0) :: (86, .iload 4, 2, 0, 0, 0) :: (88, .iload_n 2, 1, 0, 0, 0) :: (89, .invokevirtual 253, 3, 103, 4, 6) :: k_97_92
def k_97_78 : List CE := (78, .bipush 6, 2, 0, 0, 0) :: (80, .ireturn, 1, 0, 0, 0) :: k_97_81
def k_97_56 : List CE := (56, .iconst 1, 1, 0, 0, 0) :: (57, .iadd, 1, 0, 0, 0) :: (58, .bipush 24, 2, 0, 0, 0) :: (60, .if_icmp .gt 18, 3, 0, 0, 0) :: (63, .iload_n 3, 1, 0, 0, 0) :: (64, .sipush 16001, 3, 0, 0, 0) :: (67, .if_icmp .eq 11, 3, 0, 0, 0) :: (70, .iload 4, 2, 0, 0, 0) :: (72, .sipush 16001, 3, 0, 0, 0) :: (75, .if_icmp .ne 6, 3, 0, 0, 0) :: k_97_78
def k_97_47 : List CE := (47, .istore 4, 2, 0, 0, 0) :: (49, .aload_n 0, 1, 0, 0, 0) :: (50, .getfield 26, 3, 4, 2, 2) :: (53, .invokevirtual 250, 3, 101, 1, 6) :: k_97_56
def k_97_43 : List CE := (43, .iconst 1, 1, 0, 0, 0) :: (44, .invokevirtual 246, 3, 98, 4, 9) :: k_97_47
def k_97_38 : List CE := (38, .aload_n 1, 1, 0, 0, 0) :: (39, .iconst 0, 1, 0, 0, 0) :: (40, .invokevirtual 223, 3, 88, 2, 8) :: k_97_43
def k_97_23 : List CE := (23, .istore_n 3, 1, 0, 0, 0) :: (24, .aload_n 0, 1, 0, 0, 0) :: (25, .getfield 19, 3, 4, 2, 1) :: (28, .aload_n 0, 1, 0, 0, 0) :: (29, .getfield 121, 3, 4, 0, 12) :: (32, .aaload, 1, 0, 0, 0) :: (33, .aload_n 1, 1, 0, 0, 0) :: (34, .iconst 1, 1, 0, 0, 0) :: (35, .invokevirtual 223, 3, 88, 2, 8) :: k_97_38
def k_97_19 : List CE := (19, .iconst 0, 1, 0, 0, 0) :: (20, .invokevirtual 246, 3, 98, 4, 9) :: k_97_23
def k_97_14 : List CE := (14, .aload_n 1, 1, 0, 0, 0) :: (15, .iconst 0, 1, 0, 0, 0) :: (16, .invokevirtual 223, 3, 88, 2, 8) :: k_97_19
def k_97_0 : List CE := (0, .aload_n 0, 1, 0, 0, 0) :: (1, .getfield 19, 3, 4, 2, 1) :: (4, .aload_n 0, 1, 0, 0, 0) :: (5, .getfield 121, 3, 4, 0, 12) :: (8, .aaload, 1, 0, 0, 0) :: (9, .aload_n 1, 1, 0, 0, 0) :: (10, .iconst 1, 1, 0, 0, 0) :: (11, .invokevirtual 223, 3, 88, 2, 8) :: k_97_14
/-- PageInterpreter$Graphics.toDevice(JJI)I -/
def k_98_64 : List CE := (64, .ireturn, 1, 0, 0, 0) :: []
def k_98_61 : List CE := (61, .invokestatic 47, 3, 99, 1, 0) :: k_98_64
def k_98_49 : List CE := (49, .aload_n 0, 1, 0, 0, 0) :: (50, .getfield 9, 3, 8, 2, 0) :: (53, .iload 5, 2, 0, 0, 0) :: (55, .iconst 4, 1, 0, 0, 0) :: (56, .iadd, 1, 0, 0, 0) :: (57, .laload, 1, 0, 0, 0) :: (58, .invokestatic 44, 3, 95, 2, 0) :: k_98_61
def k_98_40 : List CE := (40, .lstore 8, 2, 0, 0, 0) :: (42, .lload 6, 2, 0, 0, 0) :: (44, .lload 8, 2, 0, 0, 0) :: (46, .invokestatic 44, 3, 95, 2, 0) :: k_98_49
def k_98_25 : List CE := (25, .lstore 6, 2, 0, 0, 0) :: (27, .aload_n 0, 1, 0, 0, 0) :: (28, .getfield 9, 3, 8, 2, 0) :: (31, .iload 5, 2, 0, 0, 0) :: (33, .iconst 2, 1, 0, 0, 0) :: (34, .iadd, 1, 0, 0, 0) :: (35, .laload, 1, 0, 0, 0) :: (36, .lload_n 3, 1, 0, 0, 0) :: (37, .invokestatic 40, 3, 92, 2, 0) :: k_98_40
def k_98_14 : List CE := (14, .aload_n 0, 1, 0, 0, 0) :: (15, .getfield 9, 3, 8, 2, 0) :: (18, .iload 5, 2, 0, 0, 0) :: (20, .laload, 1, 0, 0, 0) :: (21, .lload_n 1, 1, 0, 0, 0) :: (22, .invokestatic 40, 3, 92, 2, 0) :: k_98_25
def k_98_7 : List CE := (7, .ifCond .ne 7, 3, 0, 0, 0) :: (10, .sipush 16001, 3, 0, 0, 0) :: (13, .ireturn, 1, 0, 0, 0) :: k_98_14
def k_98_0 : List CE := (0, .iload 5, 2, 0, 0, 0) :: (2, .iconst 0, 1, 0, 0, 0) :: (3, .iconst 1, 1, 0, 0, 0) :: (4, .invokestatic 36, 3, 15, 3, 0) :: k_98_7
/-- PageInterpreter$Fraction.sixteenths(J)I -/
def k_99_64 : List CE := (64, .ireturn, 1, 0, 0, 0) :: []
def k_99_61 : List CE := (61, .lload 4, 2, 0, 0, 0) :: (63, .l2i, 1, 0, 0, 0) :: k_99_64
def k_99_55 : List CE := (55, .sipush 16001, 3, 0, 0, 0) :: (58, .goto 6, 3, 0, 0, 0) :: k_99_61
def k_99_35 : List CE := (35, .lstore 4, 2, 0, 0, 0) :: (37, .lload 4, 2, 0, 0, 0) :: (39, .ldc2_w 37, 3, 0, 0, (-16000)) :: (42, .lcmp, 1, 0, 0, 0) :: (43, .ifCond .lt 12, 3, 0, 0, 0) :: (46, .lload 4, 2, 0, 0, 0) :: (48, .ldc2_w 39, 3, 0, 0, 16000) :: (51, .lcmp, 1, 0, 0, 0) :: (52, .ifCond .le 9, 3, 0, 0, 0) :: k_99_55
def k_99_23 : List CE := (23, .imul, 1, 0, 0, 0) :: (24, .i2l, 1, 0, 0, 0) :: (25, .lload_n 2, 1, 0, 0, 0) :: (26, .ladd, 1, 0, 0, 0) :: (27, .ldc2_w 30, 3, 0, 0, 2) :: (30, .lload_n 2, 1, 0, 0, 0) :: (31, .lmul, 1, 0, 0, 0) :: (32, .invokestatic 32, 3, 100, 2, 0) :: k_99_35
def k_99_15 : List CE := (15, .i2l, 1, 0, 0, 0) :: (16, .lstore_n 2, 1, 0, 0, 0) :: (17, .bipush 32, 2, 0, 0, 0) :: (19, .lload_n 0, 1, 0, 0, 0) :: (20, .invokestatic 13, 3, 93, 1, 0) :: k_99_23
def k_99_11 : List CE := (11, .lload_n 0, 1, 0, 0, 0) :: (12, .invokestatic 9, 3, 94, 1, 0) :: k_99_15
def k_99_4 : List CE := (4, .ifCond .ne 7, 3, 0, 0, 0) :: (7, .sipush 16001, 3, 0, 0, 0) :: (10, .ireturn, 1, 0, 0, 0) :: k_99_11
def k_99_0 : List CE := (0, .lload_n 0, 1, 0, 0, 0) :: (1, .invokestatic 22, 3, 31, 1, 0) :: k_99_4
/-- java/lang/Math.floorDiv(JJ)J -/
def k_100_27 : List CE := (27, .lload 4, 2, 0, 0, 0) :: (29, .lreturn, 1, 0, 0, 0) :: []
def k_100_0 : List CE := (0, .lload_n 0, 1, 0, 0, 0) :: (1, .lload_n 2, 1, 0, 0, 0) :: (2, .ldiv, 1, 0, 0, 0) :: (3, .lstore 4, 2, 0, 0, 0) :: (5, .lload_n 0, 1, 0, 0, 0) :: (6, .lload_n 2, 1, 0, 0, 0) :: (7, .lxor, 1, 0, 0, 0) :: (8, .lconst 0, 1, 0, 0, 0) :: (9, .lcmp, 1, 0, 0, 0) :: (10, .ifCond .ge 17, 3, 0, 0, 0) :: (13, .lload 4, 2, 0, 0, 0) :: (15, .lload_n 2, 1, 0, 0, 0) :: (16, .lmul, 1, 0, 0, 0) :: (17, .lload_n 0, 1, 0, 0, 0) :: (18, .lcmp, 1, 0, 0, 0) :: (19, .ifCond .eq 8, 3, 0, 0, 0) :: (22, .lload 4, 2, 0, 0, 0) :: (24, .lconst 1, 1, 0, 0, 0) :: (25, .lsub, 1, 0, 0, 0) :: (26, .lreturn, 1, 0, 0, 0) :: k_100_27
/-- PageInterpreter$Paths.presentPoints()I -/
def k_101_12 : List CE := (12, .isub, 1, 0, 0, 0) :: (13, .ireturn, 1, 0, 0, 0) :: []
def k_101_0 : List CE := (0, .aload_n 0, 1, 0, 0, 0) :: (1, .getfield 32, 3, 5, 0, 6) :: (4, .aload_n 0, 1, 0, 0, 0) :: (5, .aload_n 0, 1, 0, 0, 0) :: (6, .getfield 28, 3, 5, 0, 5) :: (9, .invokevirtual 39, 3, 102, 2, 6) :: k_101_12
/-- PageInterpreter$Paths.startOf(I)I -/
def k_102_21 : List CE := (21, .ireturn, 1, 0, 0, 0) :: []
def k_102_20 : List CE := (20, .iconst 0, 1, 0, 0, 0) :: k_102_21
def k_102_0 : List CE := (0, .iload_n 1, 1, 0, 0, 0) :: (1, .ifCond .lt 19, 3, 0, 0, 0) :: (4, .iload_n 1, 1, 0, 0, 0) :: (5, .sipush 200, 3, 0, 0, 0) :: (8, .if_icmp .gt 12, 3, 0, 0, 0) :: (11, .aload_n 0, 1, 0, 0, 0) :: (12, .getfield 22, 3, 5, 2, 3) :: (15, .iload_n 1, 1, 0, 0, 0) :: (16, .iaload, 1, 0, 0, 0) :: (17, .goto 4, 3, 0, 0, 0) :: k_102_20
/-- PageInterpreter$Paths.add(IIZ)V -/
def k_103_57 : List CE := (57, .return_, 1, 0, 0, 0) :: []
def k_103_0 : List CE := (0, .aload_n 0, 1, 0, 0, 0) :: (1, .getfield 32, 3, 5, 0, 6) :: (4, .ifCond .lt 53, 3, 0, 0, 0) :: (7, .aload_n 0, 1, 0, 0, 0) :: (8, .getfield 32, 3, 5, 0, 6) :: (11, .sipush 800, 3, 0, 0, 0) :: (14, .if_icmp .ge 43, 3, 0, 0, 0) :: (17, .aload_n 0, 1, 0, 0, 0) :: (18, .getfield 9, 3, 5, 2, 0) :: (21, .aload_n 0, 1, 0, 0, 0) :: (22, .getfield 32, 3, 5, 0, 6) :: (25, .iload_n 1, 1, 0, 0, 0) :: (26, .iastore, 1, 0, 0, 0) :: (27, .aload_n 0, 1, 0, 0, 0) :: (28, .getfield 15, 3, 5, 2, 1) :: (31, .aload_n 0, 1, 0, 0, 0) :: (32, .getfield 32, 3, 5, 0, 6) :: (35, .iload_n 2, 1, 0, 0, 0) :: (36, .iastore, 1, 0, 0, 0) :: (37, .aload_n 0, 1, 0, 0, 0) :: (38, .getfield 18, 3, 5, 2, 2) :: (41, .aload_n 0, 1, 0, 0, 0) :: (42, .getfield 32, 3, 5, 0, 6) :: (45, .iload_n 3, 1, 0, 0, 0) :: (46, .bastore, 1, 0, 0, 0) :: (47, .aload_n 0, 1, 0, 0, 0) :: (48, .dup, 1, 0, 0, 0) :: (49, .getfield 32, 3, 5, 0, 6) :: (52, .iconst 1, 1, 0, 0, 0) :: (53, .iadd, 1, 0, 0, 0) :: (54, .putfield 32, 3, 5, 0, 6) :: k_103_57
/-- PageInterpreter$Machine.addRect(LPageInterpreter$Frame;)I -/
def k_104_83 : List CE := (83, .iconst 0, 1, 0, 0, 0) :: (84, .ireturn, 1, 0, 0, 0) :: []
def k_104_78 : List CE := (78, .aload_n 1, 1, 0, 0, 0) :: (79, .iconst 4, 1, 0, 0, 0) :: (80, .invokevirtual 204, 3, 96, 2, 8) :: k_104_83
def k_104_67 : List CE := (67, .aload_n 0, 1, 0, 0, 0) :: (68, .getfield 26, 3, 4, 2, 2) :: (71, .aload_n 0, 1, 0, 0, 0) :: (72, .getfield 53, 3, 4, 2, 8) :: (75, .invokevirtual 261, 3, 106, 2, 6) :: k_104_78
def k_104_64 : List CE := (64, .bipush 6, 2, 0, 0, 0) :: (66, .ireturn, 1, 0, 0, 0) :: k_104_67
def k_104_61 : List CE := (61, .ifCond .ne 6, 3, 0, 0, 0) :: k_104_64
def k_104_43 : List CE := (43, .iconst 4, 1, 0, 0, 0) :: (44, .iadd, 1, 0, 0, 0) :: (45, .bipush 24, 2, 0, 0, 0) :: (47, .if_icmp .gt 17, 3, 0, 0, 0) :: (50, .aload_n 0, 1, 0, 0, 0) :: (51, .lload_n 2, 1, 0, 0, 0) :: (52, .lload 4, 2, 0, 0, 0) :: (54, .lload 6, 2, 0, 0, 0) :: (56, .lload 8, 2, 0, 0, 0) :: (58, .invokevirtual 257, 3, 105, 5, 5) :: k_104_61
def k_104_34 : List CE := (34, .lstore 8, 2, 0, 0, 0) :: (36, .aload_n 0, 1, 0, 0, 0) :: (37, .getfield 26, 3, 4, 2, 2) :: (40, .invokevirtual 250, 3, 101, 1, 6) :: k_104_43
def k_104_31 : List CE := (31, .invokestatic 233, 3, 95, 2, 0) :: k_104_34
def k_104_22 : List CE := (22, .lstore 6, 2, 0, 0, 0) :: (24, .lload 4, 2, 0, 0, 0) :: (26, .aload_n 1, 1, 0, 0, 0) :: (27, .iconst 0, 1, 0, 0, 0) :: (28, .invokevirtual 223, 3, 88, 2, 8) :: k_104_31
def k_104_19 : List CE := (19, .invokestatic 233, 3, 95, 2, 0) :: k_104_22
def k_104_11 : List CE := (11, .lstore 4, 2, 0, 0, 0) :: (13, .lload_n 2, 1, 0, 0, 0) :: (14, .aload_n 1, 1, 0, 0, 0) :: (15, .iconst 1, 1, 0, 0, 0) :: (16, .invokevirtual 223, 3, 88, 2, 8) :: k_104_19
def k_104_5 : List CE := (5, .lstore_n 2, 1, 0, 0, 0) :: (6, .aload_n 1, 1, 0, 0, 0) :: (7, .iconst 2, 1, 0, 0, 0) :: (8, .invokevirtual 223, 3, 88, 2, 8) :: k_104_11
def k_104_0 : List CE := (0, .aload_n 1, 1, 0, 0, 0) :: (1, .iconst 3, 1, 0, 0, 0) :: (2, .invokevirtual 223, 3, 88, 2, 8) :: k_104_5
/-- PageInterpreter$Machine.setCorners(JJJJ)Z -/
def k_105_121 : List CE := (121, .iload 9, 2, 0, 0, 0) :: (123, .ireturn, 1, 1, 0, 0) :: []
def k_105_115 : List CE := (115, .iinc 10 1, 3, 0, 0, 0) :: (118, .goto (-112), 3, 0, 0, 0) :: k_105_121
def k_105_107 : List CE := (107, .istore 9, 2, 0, 0, 0) :: (109, .iinc 15 1, 3, 0, 0, 0) :: (112, .goto (-63), 3, 0, 0, 0) :: k_105_115
def k_105_106 : List CE := (106, .iconst 0, 1, 0, 0, 0) :: k_105_107
def k_105_73 : List CE := (73, .istore 16, 2, 0, 0, 0) :: (75, .aload_n 0, 1, 0, 0, 0) :: (76, .getfield 53, 3, 4, 2, 8) :: (79, .iconst 2, 1, 0, 0, 0) :: (80, .iload 10, 2, 0, 0, 0) :: (82, .imul, 1, 0, 0, 0) :: (83, .iload 15, 2, 0, 0, 0) :: (85, .iadd, 1, 0, 0, 0) :: (86, .iload 16, 2, 0, 0, 0) :: (88, .iastore, 1, 0, 0, 0) :: (89, .iload 9, 2, 0, 0, 0) :: (91, .ifCond .eq 15, 3, 0, 0, 0) :: (94, .iload 16, 2, 0, 0, 0) :: (96, .sipush 16001, 3, 0, 0, 0) :: (99, .if_icmp .eq 7, 3, 0, 0, 0) :: (102, .iconst 1, 1, 0, 0, 0) :: (103, .goto 4, 3, 0, 0, 0) :: k_105_106
def k_105_49 : List CE := (49, .iload 15, 2, 0, 0, 0) :: (51, .iconst 2, 1, 0, 0, 0) :: (52, .if_icmp .ge 63, 3, 0, 0, 0) :: (55, .aload_n 0, 1, 0, 0, 0) :: (56, .getfield 19, 3, 4, 2, 1) :: (59, .aload_n 0, 1, 0, 0, 0) :: (60, .getfield 121, 3, 4, 0, 12) :: (63, .aaload, 1, 0, 0, 0) :: (64, .lload 11, 2, 0, 0, 0) :: (66, .lload 13, 2, 0, 0, 0) :: (68, .iload 15, 2, 0, 0, 0) :: (70, .invokevirtual 246, 3, 98, 4, 9) :: k_105_73
def k_105_44 : List CE := (44, .lstore 13, 2, 0, 0, 0) :: (46, .iconst 0, 1, 0, 0, 0) :: (47, .istore 15, 2, 0, 0, 0) :: k_105_49
def k_105_42 : List CE := (42, .lload 7, 2, 0, 0, 0) :: k_105_44
def k_105_30 : List CE := (30, .lstore 11, 2, 0, 0, 0) :: (32, .iload 10, 2, 0, 0, 0) :: (34, .iconst 2, 1, 0, 0, 0) :: (35, .if_icmp .ge 7, 3, 0, 0, 0) :: (38, .lload_n 3, 1, 0, 0, 0) :: (39, .goto 5, 3, 0, 0, 0) :: k_105_42
def k_105_29 : List CE := (29, .lload_n 1, 1, 0, 0, 0) :: k_105_30
def k_105_24 : List CE := (24, .lload 5, 2, 0, 0, 0) :: (26, .goto 4, 3, 0, 0, 0) :: k_105_29
def k_105_6 : List CE := (6, .iload 10, 2, 0, 0, 0) :: (8, .iconst 4, 1, 0, 0, 0) :: (9, .if_icmp .ge 112, 3, 0, 0, 0) :: (12, .iload 10, 2, 0, 0, 0) :: (14, .iconst 1, 1, 0, 0, 0) :: (15, .if_icmp .eq 9, 3, 0, 0, 0) :: (18, .iload 10, 2, 0, 0, 0) :: (20, .iconst 2, 1, 0, 0, 0) :: (21, .if_icmp .ne 8, 3, 0, 0, 0) :: k_105_24
def k_105_0 : List CE := (0, .iconst 1, 1, 0, 0, 0) :: (1, .istore 9, 2, 0, 0, 0) :: (3, .iconst 0, 1, 0, 0, 0) :: (4, .istore 10, 2, 0, 0, 0) :: k_105_6
