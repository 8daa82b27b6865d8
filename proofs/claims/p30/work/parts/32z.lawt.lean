def t_law_s : List (Nat × Instr × Nat) := [(0, .new 8, 3), (3, .dup, 1), (4, .invokespecial 107, 3), (7, .astore_n 1, 1), (8, .new 108, 3), (11, .dup, 1), (12, .invokespecial 110, 3), (15, .astore_n 2, 1), (16, .new 14, 3), (19, .dup, 1), (20, .invokespecial 111, 3), (23, .astore_n 3, 1), (24, .iconst 0, 1), (25, .istore 4, 2), (27, .iload 4, 2), (29, .aload_n 0, 1), (30, .arraylength, 1), (31, .iconst 5, 1), (32, .isub, 1), (33, .if_icmp .gt 1630, 3), (36, .aload_n 0, 1), (37, .iload 4, 2), (39, .iaload, 1), (40, .bipush 63, 2), (42, .iand, 1), (43, .tableswitch 1614 0 42 #[185, 249, 289, 329, 381, 433, 474, 502, 530, 558, 586, 614, 654, 706, 746, 798, 838, 866, 906, 962, 1002, 1030, 1082, 1122, 1135, 1148, 1161, 1217, 1258, 1339, 1391, 1443, 1456, 1469, 1482, 1495, 1508, 1521, 1534, 1547, 1575, 1588, 1601], 185)]
set_option maxRecDepth 100000 in
theorem T_law_s : ∀ e ∈ t_law_s, decode code e.1 = .ok e.2 := by decide +kernel
def t_law_0 : List (Nat × Instr × Nat) := [(228, .aload_n 1, 1), (229, .aload_n 0, 1), (230, .iload 4, 2), (232, .iconst 1, 1), (233, .iadd, 1), (234, .iaload, 1), (235, .aload_n 0, 1), (236, .iload 4, 2), (238, .iconst 2, 1), (239, .iadd, 1), (240, .iaload, 1), (241, .aload_n 0, 1), (242, .iload 4, 2), (244, .iconst 3, 1), (245, .iadd, 1), (246, .iaload, 1), (247, .aload_n 0, 1), (248, .iload 4, 2), (250, .iconst 4, 1), (251, .iadd, 1), (252, .iaload, 1), (253, .aload_n 3, 1), (254, .invokestatic 112, 3), (257, .istore 5, 2), (259, .aload_n 2, 1), (260, .aload_n 0, 1), (261, .iload 4, 2), (263, .iconst 1, 1), (264, .iadd, 1), (265, .iaload, 1), (266, .aload_n 0, 1), (267, .iload 4, 2), (269, .iconst 2, 1), (270, .iadd, 1), (271, .iaload, 1), (272, .aload_n 0, 1), (273, .iload 4, 2), (275, .iconst 3, 1), (276, .iadd, 1), (277, .iaload, 1), (278, .aload_n 0, 1), (279, .iload 4, 2), (281, .iconst 4, 1), (282, .iadd, 1), (283, .iaload, 1), (284, .invokevirtual 117, 3), (287, .istore 6, 2), (289, .goto 1368, 3)]
set_option maxRecDepth 100000 in
theorem T_law_0 : ∀ e ∈ t_law_0, decode code e.1 = .ok e.2 := by decide +kernel
def t_law_1 : List (Nat × Instr × Nat) := [(292, .aload_n 1, 1), (293, .aload_n 0, 1), (294, .iload 4, 2), (296, .iconst 1, 1), (297, .iadd, 1), (298, .iaload, 1), (299, .aload_n 0, 1), (300, .iload 4, 2), (302, .iconst 2, 1), (303, .iadd, 1), (304, .iaload, 1), (305, .aload_n 3, 1), (306, .invokestatic 118, 3), (309, .istore 5, 2), (311, .aload_n 2, 1), (312, .aload_n 0, 1), (313, .iload 4, 2), (315, .iconst 1, 1), (316, .iadd, 1), (317, .iaload, 1), (318, .aload_n 0, 1), (319, .iload 4, 2), (321, .iconst 2, 1), (322, .iadd, 1), (323, .iaload, 1), (324, .invokevirtual 121, 3), (327, .istore 6, 2), (329, .goto 1328, 3)]
set_option maxRecDepth 100000 in
theorem T_law_1 : ∀ e ∈ t_law_1, decode code e.1 = .ok e.2 := by decide +kernel
def t_law_2 : List (Nat × Instr × Nat) := [(332, .aload_n 1, 1), (333, .aload_n 0, 1), (334, .iload 4, 2), (336, .iconst 1, 1), (337, .iadd, 1), (338, .iaload, 1), (339, .aload_n 0, 1), (340, .iload 4, 2), (342, .iconst 2, 1), (343, .iadd, 1), (344, .iaload, 1), (345, .aload_n 3, 1), (346, .invokestatic 122, 3), (349, .istore 5, 2), (351, .aload_n 2, 1), (352, .aload_n 0, 1), (353, .iload 4, 2), (355, .iconst 1, 1), (356, .iadd, 1), (357, .iaload, 1), (358, .aload_n 0, 1), (359, .iload 4, 2), (361, .iconst 2, 1), (362, .iadd, 1), (363, .iaload, 1), (364, .invokevirtual 124, 3), (367, .istore 6, 2), (369, .goto 1288, 3)]
set_option maxRecDepth 100000 in
theorem T_law_2 : ∀ e ∈ t_law_2, decode code e.1 = .ok e.2 := by decide +kernel
def t_law_3 : List (Nat × Instr × Nat) := [(372, .aload_n 1, 1), (373, .aload_n 0, 1), (374, .iload 4, 2), (376, .iconst 1, 1), (377, .iadd, 1), (378, .iaload, 1), (379, .aload_n 0, 1), (380, .iload 4, 2), (382, .iconst 2, 1), (383, .iadd, 1), (384, .iaload, 1), (385, .aload_n 0, 1), (386, .iload 4, 2), (388, .iconst 3, 1), (389, .iadd, 1), (390, .iaload, 1), (391, .aload_n 3, 1), (392, .invokestatic 125, 3), (395, .istore 5, 2), (397, .aload_n 2, 1), (398, .aload_n 0, 1), (399, .iload 4, 2), (401, .iconst 1, 1), (402, .iadd, 1), (403, .iaload, 1), (404, .aload_n 0, 1), (405, .iload 4, 2), (407, .iconst 2, 1), (408, .iadd, 1), (409, .iaload, 1), (410, .aload_n 0, 1), (411, .iload 4, 2), (413, .iconst 3, 1), (414, .iadd, 1), (415, .iaload, 1), (416, .invokevirtual 128, 3), (419, .istore 6, 2), (421, .goto 1236, 3)]
set_option maxRecDepth 100000 in
theorem T_law_3 : ∀ e ∈ t_law_3, decode code e.1 = .ok e.2 := by decide +kernel
def t_law_4 : List (Nat × Instr × Nat) := [(424, .aload_n 1, 1), (425, .aload_n 0, 1), (426, .iload 4, 2), (428, .iconst 1, 1), (429, .iadd, 1), (430, .iaload, 1), (431, .aload_n 0, 1), (432, .iload 4, 2), (434, .iconst 2, 1), (435, .iadd, 1), (436, .iaload, 1), (437, .aload_n 0, 1), (438, .iload 4, 2), (440, .iconst 3, 1), (441, .iadd, 1), (442, .iaload, 1), (443, .aload_n 3, 1), (444, .invokestatic 129, 3), (447, .istore 5, 2), (449, .aload_n 2, 1), (450, .aload_n 0, 1), (451, .iload 4, 2), (453, .iconst 1, 1), (454, .iadd, 1), (455, .iaload, 1), (456, .aload_n 0, 1), (457, .iload 4, 2), (459, .iconst 2, 1), (460, .iadd, 1), (461, .iaload, 1), (462, .aload_n 0, 1), (463, .iload 4, 2), (465, .iconst 3, 1), (466, .iadd, 1), (467, .iaload, 1), (468, .invokevirtual 131, 3), (471, .istore 6, 2), (473, .goto 1184, 3)]
set_option maxRecDepth 100000 in
theorem T_law_4 : ∀ e ∈ t_law_4, decode code e.1 = .ok e.2 := by decide +kernel
def t_law_5 : List (Nat × Instr × Nat) := [(476, .aload_n 1, 1), (477, .aload_n 0, 1), (478, .iload 4, 2), (480, .iconst 1, 1), (481, .iadd, 1), (482, .iaload, 1), (483, .ifCond .eq 7, 3), (486, .iconst 1, 1), (487, .goto 4, 3), (490, .iconst 0, 1), (491, .invokevirtual 132, 3), (494, .pop, 1), (495, .aload_n 2, 1), (496, .aload_n 0, 1), (497, .iload 4, 2), (499, .iconst 1, 1), (500, .iadd, 1), (501, .iaload, 1), (502, .ifCond .eq 7, 3), (505, .iconst 1, 1), (506, .goto 4, 3), (509, .iconst 0, 1), (510, .invokevirtual 136, 3), (513, .pop, 1), (514, .goto 1143, 3)]
set_option maxRecDepth 100000 in
theorem T_law_5 : ∀ e ∈ t_law_5, decode code e.1 = .ok e.2 := by decide +kernel
def t_law_6 : List (Nat × Instr × Nat) := [(517, .aload_n 1, 1), (518, .aload_n 0, 1), (519, .iload 4, 2), (521, .iconst 1, 1), (522, .iadd, 1), (523, .iaload, 1), (524, .aload_n 3, 1), (525, .invokestatic 137, 3), (528, .istore 5, 2), (530, .aload_n 2, 1), (531, .aload_n 0, 1), (532, .iload 4, 2), (534, .iconst 1, 1), (535, .iadd, 1), (536, .iaload, 1), (537, .invokevirtual 140, 3), (540, .istore 6, 2), (542, .goto 1115, 3)]
set_option maxRecDepth 100000 in
theorem T_law_6 : ∀ e ∈ t_law_6, decode code e.1 = .ok e.2 := by decide +kernel
def t_law_7 : List (Nat × Instr × Nat) := [(545, .aload_n 1, 1), (546, .aload_n 0, 1), (547, .iload 4, 2), (549, .iconst 1, 1), (550, .iadd, 1), (551, .iaload, 1), (552, .aload_n 3, 1), (553, .invokestatic 141, 3), (556, .istore 5, 2), (558, .aload_n 2, 1), (559, .aload_n 0, 1), (560, .iload 4, 2), (562, .iconst 1, 1), (563, .iadd, 1), (564, .iaload, 1), (565, .invokevirtual 143, 3), (568, .istore 6, 2), (570, .goto 1087, 3)]
set_option maxRecDepth 100000 in
theorem T_law_7 : ∀ e ∈ t_law_7, decode code e.1 = .ok e.2 := by decide +kernel
def t_law_8 : List (Nat × Instr × Nat) := [(573, .aload_n 1, 1), (574, .aload_n 0, 1), (575, .iload 4, 2), (577, .iconst 1, 1), (578, .iadd, 1), (579, .iaload, 1), (580, .aload_n 3, 1), (581, .invokestatic 144, 3), (584, .istore 5, 2), (586, .aload_n 2, 1), (587, .aload_n 0, 1), (588, .iload 4, 2), (590, .iconst 1, 1), (591, .iadd, 1), (592, .iaload, 1), (593, .invokevirtual 146, 3), (596, .istore 6, 2), (598, .goto 1059, 3)]
set_option maxRecDepth 100000 in
theorem T_law_8 : ∀ e ∈ t_law_8, decode code e.1 = .ok e.2 := by decide +kernel
def t_law_9 : List (Nat × Instr × Nat) := [(601, .aload_n 1, 1), (602, .aload_n 0, 1), (603, .iload 4, 2), (605, .iconst 1, 1), (606, .iadd, 1), (607, .iaload, 1), (608, .aload_n 3, 1), (609, .invokestatic 147, 3), (612, .istore 5, 2), (614, .aload_n 2, 1), (615, .aload_n 0, 1), (616, .iload 4, 2), (618, .iconst 1, 1), (619, .iadd, 1), (620, .iaload, 1), (621, .invokevirtual 149, 3), (624, .istore 6, 2), (626, .goto 1031, 3)]
set_option maxRecDepth 100000 in
theorem T_law_9 : ∀ e ∈ t_law_9, decode code e.1 = .ok e.2 := by decide +kernel
def t_law_10 : List (Nat × Instr × Nat) := [(629, .aload_n 1, 1), (630, .aload_n 0, 1), (631, .iload 4, 2), (633, .iconst 1, 1), (634, .iadd, 1), (635, .iaload, 1), (636, .aload_n 3, 1), (637, .invokestatic 150, 3), (640, .istore 5, 2), (642, .aload_n 2, 1), (643, .aload_n 0, 1), (644, .iload 4, 2), (646, .iconst 1, 1), (647, .iadd, 1), (648, .iaload, 1), (649, .invokevirtual 152, 3), (652, .istore 6, 2), (654, .goto 1003, 3)]
set_option maxRecDepth 100000 in
theorem T_law_10 : ∀ e ∈ t_law_10, decode code e.1 = .ok e.2 := by decide +kernel
def t_law_11 : List (Nat × Instr × Nat) := [(657, .aload_n 1, 1), (658, .aload_n 0, 1), (659, .iload 4, 2), (661, .iconst 1, 1), (662, .iadd, 1), (663, .iaload, 1), (664, .aload_n 0, 1), (665, .iload 4, 2), (667, .iconst 2, 1), (668, .iadd, 1), (669, .iaload, 1), (670, .aload_n 3, 1), (671, .invokestatic 153, 3), (674, .istore 5, 2), (676, .aload_n 2, 1), (677, .aload_n 0, 1), (678, .iload 4, 2), (680, .iconst 1, 1), (681, .iadd, 1), (682, .iaload, 1), (683, .aload_n 0, 1), (684, .iload 4, 2), (686, .iconst 2, 1), (687, .iadd, 1), (688, .iaload, 1), (689, .invokevirtual 155, 3), (692, .istore 6, 2), (694, .goto 963, 3)]
set_option maxRecDepth 100000 in
theorem T_law_11 : ∀ e ∈ t_law_11, decode code e.1 = .ok e.2 := by decide +kernel
def t_law_12 : List (Nat × Instr × Nat) := [(697, .aload_n 1, 1), (698, .aload_n 0, 1), (699, .iload 4, 2), (701, .iconst 1, 1), (702, .iadd, 1), (703, .iaload, 1), (704, .aload_n 0, 1), (705, .iload 4, 2), (707, .iconst 2, 1), (708, .iadd, 1), (709, .iaload, 1), (710, .aload_n 0, 1), (711, .iload 4, 2), (713, .iconst 3, 1), (714, .iadd, 1), (715, .iaload, 1), (716, .aload_n 3, 1), (717, .invokestatic 156, 3), (720, .istore 5, 2), (722, .aload_n 2, 1), (723, .aload_n 0, 1), (724, .iload 4, 2), (726, .iconst 1, 1), (727, .iadd, 1), (728, .iaload, 1), (729, .aload_n 0, 1), (730, .iload 4, 2), (732, .iconst 2, 1), (733, .iadd, 1), (734, .iaload, 1), (735, .aload_n 0, 1), (736, .iload 4, 2), (738, .iconst 3, 1), (739, .iadd, 1), (740, .iaload, 1), (741, .invokevirtual 158, 3), (744, .istore 6, 2), (746, .goto 911, 3)]
set_option maxRecDepth 100000 in
theorem T_law_12 : ∀ e ∈ t_law_12, decode code e.1 = .ok e.2 := by decide +kernel
def t_law_13 : List (Nat × Instr × Nat) := [(749, .aload_n 1, 1), (750, .aload_n 0, 1), (751, .iload 4, 2), (753, .iconst 1, 1), (754, .iadd, 1), (755, .iaload, 1), (756, .aload_n 0, 1), (757, .iload 4, 2), (759, .iconst 2, 1), (760, .iadd, 1), (761, .iaload, 1), (762, .aload_n 3, 1), (763, .invokestatic 159, 3), (766, .istore 5, 2), (768, .aload_n 2, 1), (769, .aload_n 0, 1), (770, .iload 4, 2), (772, .iconst 1, 1), (773, .iadd, 1), (774, .iaload, 1), (775, .aload_n 0, 1), (776, .iload 4, 2), (778, .iconst 2, 1), (779, .iadd, 1), (780, .iaload, 1), (781, .invokevirtual 161, 3), (784, .istore 6, 2), (786, .goto 871, 3)]
set_option maxRecDepth 100000 in
theorem T_law_13 : ∀ e ∈ t_law_13, decode code e.1 = .ok e.2 := by decide +kernel
def t_law_14 : List (Nat × Instr × Nat) := [(789, .aload_n 1, 1), (790, .aload_n 0, 1), (791, .iload 4, 2), (793, .iconst 1, 1), (794, .iadd, 1), (795, .iaload, 1), (796, .aload_n 0, 1), (797, .iload 4, 2), (799, .iconst 2, 1), (800, .iadd, 1), (801, .iaload, 1), (802, .aload_n 0, 1), (803, .iload 4, 2), (805, .iconst 3, 1), (806, .iadd, 1), (807, .iaload, 1), (808, .aload_n 3, 1), (809, .invokestatic 162, 3), (812, .istore 5, 2), (814, .aload_n 2, 1), (815, .aload_n 0, 1), (816, .iload 4, 2), (818, .iconst 1, 1), (819, .iadd, 1), (820, .iaload, 1), (821, .aload_n 0, 1), (822, .iload 4, 2), (824, .iconst 2, 1), (825, .iadd, 1), (826, .iaload, 1), (827, .aload_n 0, 1), (828, .iload 4, 2), (830, .iconst 3, 1), (831, .iadd, 1), (832, .iaload, 1), (833, .invokevirtual 164, 3), (836, .istore 6, 2), (838, .goto 819, 3)]
set_option maxRecDepth 100000 in
theorem T_law_14 : ∀ e ∈ t_law_14, decode code e.1 = .ok e.2 := by decide +kernel
def t_law_15 : List (Nat × Instr × Nat) := [(841, .aload_n 1, 1), (842, .aload_n 0, 1), (843, .iload 4, 2), (845, .iconst 1, 1), (846, .iadd, 1), (847, .iaload, 1), (848, .aload_n 0, 1), (849, .iload 4, 2), (851, .iconst 2, 1), (852, .iadd, 1), (853, .iaload, 1), (854, .aload_n 3, 1), (855, .invokestatic 165, 3), (858, .istore 5, 2), (860, .aload_n 2, 1), (861, .aload_n 0, 1), (862, .iload 4, 2), (864, .iconst 1, 1), (865, .iadd, 1), (866, .iaload, 1), (867, .aload_n 0, 1), (868, .iload 4, 2), (870, .iconst 2, 1), (871, .iadd, 1), (872, .iaload, 1), (873, .invokevirtual 167, 3), (876, .istore 6, 2), (878, .goto 779, 3)]
set_option maxRecDepth 100000 in
theorem T_law_15 : ∀ e ∈ t_law_15, decode code e.1 = .ok e.2 := by decide +kernel
def t_law_16 : List (Nat × Instr × Nat) := [(881, .aload_n 1, 1), (882, .aload_n 0, 1), (883, .iload 4, 2), (885, .iconst 1, 1), (886, .iadd, 1), (887, .iaload, 1), (888, .aload_n 3, 1), (889, .invokestatic 168, 3), (892, .istore 5, 2), (894, .aload_n 2, 1), (895, .aload_n 0, 1), (896, .iload 4, 2), (898, .iconst 1, 1), (899, .iadd, 1), (900, .iaload, 1), (901, .invokevirtual 170, 3), (904, .istore 6, 2), (906, .goto 751, 3)]
set_option maxRecDepth 100000 in
theorem T_law_16 : ∀ e ∈ t_law_16, decode code e.1 = .ok e.2 := by decide +kernel
def t_law_17 : List (Nat × Instr × Nat) := [(909, .aload_n 1, 1), (910, .aload_n 0, 1), (911, .iload 4, 2), (913, .iconst 1, 1), (914, .iadd, 1), (915, .iaload, 1), (916, .aload_n 0, 1), (917, .iload 4, 2), (919, .iconst 2, 1), (920, .iadd, 1), (921, .iaload, 1), (922, .aload_n 3, 1), (923, .invokestatic 171, 3), (926, .istore 5, 2), (928, .aload_n 2, 1), (929, .aload_n 0, 1), (930, .iload 4, 2), (932, .iconst 1, 1), (933, .iadd, 1), (934, .iaload, 1), (935, .aload_n 0, 1), (936, .iload 4, 2), (938, .iconst 2, 1), (939, .iadd, 1), (940, .iaload, 1), (941, .invokevirtual 173, 3), (944, .istore 6, 2), (946, .goto 711, 3)]
set_option maxRecDepth 100000 in
theorem T_law_17 : ∀ e ∈ t_law_17, decode code e.1 = .ok e.2 := by decide +kernel
def t_law_18 : List (Nat × Instr × Nat) := [(949, .aload_n 1, 1), (950, .aload_n 0, 1), (951, .iload 4, 2), (953, .iconst 1, 1), (954, .iadd, 1), (955, .iaload, 1), (956, .aload_n 0, 1), (957, .iload 4, 2), (959, .iconst 2, 1), (960, .iadd, 1), (961, .iaload, 1), (962, .ifCond .eq 7, 3), (965, .iconst 1, 1), (966, .goto 4, 3), (969, .iconst 0, 1), (970, .aload_n 3, 1), (971, .invokestatic 174, 3), (974, .istore 5, 2), (976, .aload_n 2, 1), (977, .aload_n 0, 1), (978, .iload 4, 2), (980, .iconst 1, 1), (981, .iadd, 1), (982, .iaload, 1), (983, .aload_n 0, 1), (984, .iload 4, 2), (986, .iconst 2, 1), (987, .iadd, 1), (988, .iaload, 1), (989, .ifCond .eq 7, 3), (992, .iconst 1, 1), (993, .goto 4, 3), (996, .iconst 0, 1), (997, .invokevirtual 177, 3), (1000, .istore 6, 2), (1002, .goto 655, 3)]
set_option maxRecDepth 100000 in
theorem T_law_18 : ∀ e ∈ t_law_18, decode code e.1 = .ok e.2 := by decide +kernel
def t_law_19 : List (Nat × Instr × Nat) := [(1005, .aload_n 1, 1), (1006, .aload_n 0, 1), (1007, .iload 4, 2), (1009, .iconst 1, 1), (1010, .iadd, 1), (1011, .iaload, 1), (1012, .aload_n 0, 1), (1013, .iload 4, 2), (1015, .iconst 2, 1), (1016, .iadd, 1), (1017, .iaload, 1), (1018, .aload_n 3, 1), (1019, .invokestatic 178, 3), (1022, .istore 5, 2), (1024, .aload_n 2, 1), (1025, .aload_n 0, 1), (1026, .iload 4, 2), (1028, .iconst 1, 1), (1029, .iadd, 1), (1030, .iaload, 1), (1031, .aload_n 0, 1), (1032, .iload 4, 2), (1034, .iconst 2, 1), (1035, .iadd, 1), (1036, .iaload, 1), (1037, .invokevirtual 180, 3), (1040, .istore 6, 2), (1042, .goto 615, 3)]
set_option maxRecDepth 100000 in
theorem T_law_19 : ∀ e ∈ t_law_19, decode code e.1 = .ok e.2 := by decide +kernel
def t_law_20 : List (Nat × Instr × Nat) := [(1045, .aload_n 1, 1), (1046, .aload_n 0, 1), (1047, .iload 4, 2), (1049, .iconst 1, 1), (1050, .iadd, 1), (1051, .iaload, 1), (1052, .aload_n 3, 1), (1053, .invokestatic 181, 3), (1056, .istore 5, 2), (1058, .aload_n 2, 1), (1059, .aload_n 0, 1), (1060, .iload 4, 2), (1062, .iconst 1, 1), (1063, .iadd, 1), (1064, .iaload, 1), (1065, .invokevirtual 183, 3), (1068, .istore 6, 2), (1070, .goto 587, 3)]
set_option maxRecDepth 100000 in
theorem T_law_20 : ∀ e ∈ t_law_20, decode code e.1 = .ok e.2 := by decide +kernel
def t_law_21 : List (Nat × Instr × Nat) := [(1073, .aload_n 1, 1), (1074, .aload_n 0, 1), (1075, .iload 4, 2), (1077, .iconst 1, 1), (1078, .iadd, 1), (1079, .iaload, 1), (1080, .aload_n 0, 1), (1081, .iload 4, 2), (1083, .iconst 2, 1), (1084, .iadd, 1), (1085, .iaload, 1), (1086, .aload_n 0, 1), (1087, .iload 4, 2), (1089, .iconst 3, 1), (1090, .iadd, 1), (1091, .iaload, 1), (1092, .aload_n 3, 1), (1093, .invokestatic 184, 3), (1096, .istore 5, 2), (1098, .aload_n 2, 1), (1099, .aload_n 0, 1), (1100, .iload 4, 2), (1102, .iconst 1, 1), (1103, .iadd, 1), (1104, .iaload, 1), (1105, .aload_n 0, 1), (1106, .iload 4, 2), (1108, .iconst 2, 1), (1109, .iadd, 1), (1110, .iaload, 1), (1111, .aload_n 0, 1), (1112, .iload 4, 2), (1114, .iconst 3, 1), (1115, .iadd, 1), (1116, .iaload, 1), (1117, .invokevirtual 186, 3), (1120, .istore 6, 2), (1122, .goto 535, 3)]
set_option maxRecDepth 100000 in
theorem T_law_21 : ∀ e ∈ t_law_21, decode code e.1 = .ok e.2 := by decide +kernel
def t_law_22 : List (Nat × Instr × Nat) := [(1125, .aload_n 1, 1), (1126, .aload_n 0, 1), (1127, .iload 4, 2), (1129, .iconst 1, 1), (1130, .iadd, 1), (1131, .iaload, 1), (1132, .aload_n 0, 1), (1133, .iload 4, 2), (1135, .iconst 2, 1), (1136, .iadd, 1), (1137, .iaload, 1), (1138, .aload_n 3, 1), (1139, .invokestatic 187, 3), (1142, .istore 5, 2), (1144, .aload_n 2, 1), (1145, .aload_n 0, 1), (1146, .iload 4, 2), (1148, .iconst 1, 1), (1149, .iadd, 1), (1150, .iaload, 1), (1151, .aload_n 0, 1), (1152, .iload 4, 2), (1154, .iconst 2, 1), (1155, .iadd, 1), (1156, .iaload, 1), (1157, .invokevirtual 189, 3), (1160, .istore 6, 2), (1162, .goto 495, 3)]
set_option maxRecDepth 100000 in
theorem T_law_22 : ∀ e ∈ t_law_22, decode code e.1 = .ok e.2 := by decide +kernel
def t_law_23 : List (Nat × Instr × Nat) := [(1165, .aload_n 1, 1), (1166, .invokevirtual 190, 3), (1169, .pop, 1), (1170, .aload_n 2, 1), (1171, .invokevirtual 194, 3), (1174, .pop, 1), (1175, .goto 482, 3)]
set_option maxRecDepth 100000 in
theorem T_law_23 : ∀ e ∈ t_law_23, decode code e.1 = .ok e.2 := by decide +kernel
def t_law_24 : List (Nat × Instr × Nat) := [(1178, .aload_n 1, 1), (1179, .invokevirtual 195, 3), (1182, .pop, 1), (1183, .aload_n 2, 1), (1184, .invokevirtual 198, 3), (1187, .pop, 1), (1188, .goto 469, 3)]
set_option maxRecDepth 100000 in
theorem T_law_24 : ∀ e ∈ t_law_24, decode code e.1 = .ok e.2 := by decide +kernel
def t_law_25 : List (Nat × Instr × Nat) := [(1191, .aload_n 1, 1), (1192, .invokevirtual 199, 3), (1195, .pop, 1), (1196, .aload_n 2, 1), (1197, .invokevirtual 202, 3), (1200, .pop, 1), (1201, .goto 456, 3)]
set_option maxRecDepth 100000 in
theorem T_law_25 : ∀ e ∈ t_law_25, decode code e.1 = .ok e.2 := by decide +kernel
def t_law_26 : List (Nat × Instr × Nat) := [(1204, .aload_n 1, 1), (1205, .aload_n 0, 1), (1206, .iload 4, 2), (1208, .iconst 1, 1), (1209, .iadd, 1), (1210, .iaload, 1), (1211, .aload_n 0, 1), (1212, .iload 4, 2), (1214, .iconst 2, 1), (1215, .iadd, 1), (1216, .iaload, 1), (1217, .ifCond .eq 7, 3), (1220, .iconst 1, 1), (1221, .goto 4, 3), (1224, .iconst 0, 1), (1225, .aload_n 3, 1), (1226, .invokestatic 203, 3), (1229, .istore 5, 2), (1231, .aload_n 2, 1), (1232, .aload_n 0, 1), (1233, .iload 4, 2), (1235, .iconst 1, 1), (1236, .iadd, 1), (1237, .iaload, 1), (1238, .aload_n 0, 1), (1239, .iload 4, 2), (1241, .iconst 2, 1), (1242, .iadd, 1), (1243, .iaload, 1), (1244, .ifCond .eq 7, 3), (1247, .iconst 1, 1), (1248, .goto 4, 3), (1251, .iconst 0, 1), (1252, .invokevirtual 205, 3), (1255, .istore 6, 2), (1257, .goto 400, 3)]
set_option maxRecDepth 100000 in
theorem T_law_26 : ∀ e ∈ t_law_26, decode code e.1 = .ok e.2 := by decide +kernel
def t_law_27 : List (Nat × Instr × Nat) := [(1260, .aload_n 1, 1), (1261, .aload_n 0, 1), (1262, .iload 4, 2), (1264, .iconst 1, 1), (1265, .iadd, 1), (1266, .iaload, 1), (1267, .ifCond .eq 7, 3), (1270, .iconst 1, 1), (1271, .goto 4, 3), (1274, .iconst 0, 1), (1275, .invokevirtual 206, 3), (1278, .pop, 1), (1279, .aload_n 2, 1), (1280, .aload_n 0, 1), (1281, .iload 4, 2), (1283, .iconst 1, 1), (1284, .iadd, 1), (1285, .iaload, 1), (1286, .ifCond .eq 7, 3), (1289, .iconst 1, 1), (1290, .goto 4, 3), (1293, .iconst 0, 1), (1294, .invokevirtual 209, 3), (1297, .pop, 1), (1298, .goto 359, 3)]
set_option maxRecDepth 100000 in
theorem T_law_27 : ∀ e ∈ t_law_27, decode code e.1 = .ok e.2 := by decide +kernel
def t_law_28 : List (Nat × Instr × Nat) := [(1301, .aload_n 1, 1), (1302, .aload_n 0, 1), (1303, .iload 4, 2), (1305, .iconst 1, 1), (1306, .iadd, 1), (1307, .iaload, 1), (1308, .aload_n 0, 1), (1309, .iload 4, 2), (1311, .iconst 2, 1), (1312, .iadd, 1), (1313, .iaload, 1), (1314, .aload_n 0, 1), (1315, .iload 4, 2), (1317, .iconst 3, 1), (1318, .iadd, 1), (1319, .iaload, 1), (1320, .aload_n 3, 1), (1321, .invokestatic 210, 3), (1324, .istore 5, 2), (1326, .aload_n 2, 1), (1327, .aload_n 0, 1), (1328, .iload 4, 2), (1330, .iconst 1, 1), (1331, .iadd, 1), (1332, .iaload, 1), (1333, .aload_n 0, 1), (1334, .iload 4, 2), (1336, .iconst 2, 1), (1337, .iadd, 1), (1338, .iaload, 1), (1339, .aload_n 0, 1), (1340, .iload 4, 2), (1342, .iconst 3, 1), (1343, .iadd, 1), (1344, .iaload, 1), (1345, .invokevirtual 212, 3), (1348, .istore 6, 2), (1350, .aload_n 2, 1), (1351, .invokevirtual 213, 3), (1354, .iload 5, 2), (1356, .if_icmp .eq 5, 3), (1359, .iconst 0, 1), (1360, .ireturn, 1), (1361, .iload 5, 2), (1363, .ifCond .ne 16, 3), (1366, .aload_n 3, 1), (1367, .getfield 13, 3), (1370, .iload 6, 2), (1372, .i2l, 1), (1373, .lcmp, 1), (1374, .ifCond .eq 5, 3), (1377, .iconst 0, 1), (1378, .ireturn, 1), (1379, .goto 278, 3)]
set_option maxRecDepth 100000 in
theorem T_law_28 : ∀ e ∈ t_law_28, decode code e.1 = .ok e.2 := by decide +kernel
def t_law_29 : List (Nat × Instr × Nat) := [(1382, .aload_n 1, 1), (1383, .aload_n 0, 1), (1384, .iload 4, 2), (1386, .iconst 1, 1), (1387, .iadd, 1), (1388, .iaload, 1), (1389, .aload_n 0, 1), (1390, .iload 4, 2), (1392, .iconst 2, 1), (1393, .iadd, 1), (1394, .iaload, 1), (1395, .aload_n 0, 1), (1396, .iload 4, 2), (1398, .iconst 3, 1), (1399, .iadd, 1), (1400, .iaload, 1), (1401, .aload_n 3, 1), (1402, .invokestatic 216, 3), (1405, .istore 5, 2), (1407, .aload_n 2, 1), (1408, .aload_n 0, 1), (1409, .iload 4, 2), (1411, .iconst 1, 1), (1412, .iadd, 1), (1413, .iaload, 1), (1414, .aload_n 0, 1), (1415, .iload 4, 2), (1417, .iconst 2, 1), (1418, .iadd, 1), (1419, .iaload, 1), (1420, .aload_n 0, 1), (1421, .iload 4, 2), (1423, .iconst 3, 1), (1424, .iadd, 1), (1425, .iaload, 1), (1426, .invokevirtual 218, 3), (1429, .istore 6, 2), (1431, .goto 226, 3)]
set_option maxRecDepth 100000 in
theorem T_law_29 : ∀ e ∈ t_law_29, decode code e.1 = .ok e.2 := by decide +kernel
def t_law_30 : List (Nat × Instr × Nat) := [(1434, .aload_n 1, 1), (1435, .aload_n 0, 1), (1436, .iload 4, 2), (1438, .iconst 1, 1), (1439, .iadd, 1), (1440, .iaload, 1), (1441, .aload_n 0, 1), (1442, .iload 4, 2), (1444, .iconst 2, 1), (1445, .iadd, 1), (1446, .iaload, 1), (1447, .aload_n 0, 1), (1448, .iload 4, 2), (1450, .iconst 3, 1), (1451, .iadd, 1), (1452, .iaload, 1), (1453, .aload_n 3, 1), (1454, .invokestatic 219, 3), (1457, .istore 5, 2), (1459, .aload_n 2, 1), (1460, .aload_n 0, 1), (1461, .iload 4, 2), (1463, .iconst 1, 1), (1464, .iadd, 1), (1465, .iaload, 1), (1466, .aload_n 0, 1), (1467, .iload 4, 2), (1469, .iconst 2, 1), (1470, .iadd, 1), (1471, .iaload, 1), (1472, .aload_n 0, 1), (1473, .iload 4, 2), (1475, .iconst 3, 1), (1476, .iadd, 1), (1477, .iaload, 1), (1478, .invokevirtual 221, 3), (1481, .istore 6, 2), (1483, .goto 174, 3)]
set_option maxRecDepth 100000 in
theorem T_law_30 : ∀ e ∈ t_law_30, decode code e.1 = .ok e.2 := by decide +kernel
def t_law_31 : List (Nat × Instr × Nat) := [(1486, .aload_n 1, 1), (1487, .invokevirtual 222, 3), (1490, .pop, 1), (1491, .aload_n 2, 1), (1492, .invokevirtual 225, 3), (1495, .pop, 1), (1496, .goto 161, 3)]
set_option maxRecDepth 100000 in
theorem T_law_31 : ∀ e ∈ t_law_31, decode code e.1 = .ok e.2 := by decide +kernel
def t_law_32 : List (Nat × Instr × Nat) := [(1499, .aload_n 1, 1), (1500, .invokevirtual 226, 3), (1503, .pop, 1), (1504, .aload_n 2, 1), (1505, .invokevirtual 230, 3), (1508, .pop, 1), (1509, .goto 148, 3)]
set_option maxRecDepth 100000 in
theorem T_law_32 : ∀ e ∈ t_law_32, decode code e.1 = .ok e.2 := by decide +kernel
def t_law_33 : List (Nat × Instr × Nat) := [(1512, .aload_n 1, 1), (1513, .invokevirtual 231, 3), (1516, .pop, 1), (1517, .aload_n 2, 1), (1518, .invokevirtual 235, 3), (1521, .pop, 1), (1522, .goto 135, 3)]
set_option maxRecDepth 100000 in
theorem T_law_33 : ∀ e ∈ t_law_33, decode code e.1 = .ok e.2 := by decide +kernel
def t_law_34 : List (Nat × Instr × Nat) := [(1525, .aload_n 1, 1), (1526, .invokevirtual 236, 3), (1529, .pop, 1), (1530, .aload_n 2, 1), (1531, .invokevirtual 239, 3), (1534, .pop, 1), (1535, .goto 122, 3)]
set_option maxRecDepth 100000 in
theorem T_law_34 : ∀ e ∈ t_law_34, decode code e.1 = .ok e.2 := by decide +kernel
def t_law_35 : List (Nat × Instr × Nat) := [(1538, .aload_n 1, 1), (1539, .invokevirtual 240, 3), (1542, .pop, 1), (1543, .aload_n 2, 1), (1544, .invokevirtual 243, 3), (1547, .pop, 1), (1548, .goto 109, 3)]
set_option maxRecDepth 100000 in
theorem T_law_35 : ∀ e ∈ t_law_35, decode code e.1 = .ok e.2 := by decide +kernel
def t_law_36 : List (Nat × Instr × Nat) := [(1551, .aload_n 1, 1), (1552, .invokevirtual 244, 3), (1555, .pop, 1), (1556, .aload_n 2, 1), (1557, .invokevirtual 247, 3), (1560, .pop, 1), (1561, .goto 96, 3)]
set_option maxRecDepth 100000 in
theorem T_law_36 : ∀ e ∈ t_law_36, decode code e.1 = .ok e.2 := by decide +kernel
def t_law_37 : List (Nat × Instr × Nat) := [(1564, .aload_n 1, 1), (1565, .invokevirtual 248, 3), (1568, .pop, 1), (1569, .aload_n 2, 1), (1570, .invokevirtual 251, 3), (1573, .pop, 1), (1574, .goto 83, 3)]
set_option maxRecDepth 100000 in
theorem T_law_37 : ∀ e ∈ t_law_37, decode code e.1 = .ok e.2 := by decide +kernel
def t_law_38 : List (Nat × Instr × Nat) := [(1577, .aload_n 1, 1), (1578, .invokevirtual 252, 3), (1581, .pop, 1), (1582, .aload_n 2, 1), (1583, .invokevirtual 255, 3), (1586, .pop, 1), (1587, .goto 70, 3)]
set_option maxRecDepth 100000 in
theorem T_law_38 : ∀ e ∈ t_law_38, decode code e.1 = .ok e.2 := by decide +kernel
def t_law_39 : List (Nat × Instr × Nat) := [(1590, .aload_n 1, 1), (1591, .aload_n 0, 1), (1592, .iload 4, 2), (1594, .iconst 1, 1), (1595, .iadd, 1), (1596, .iaload, 1), (1597, .aload_n 3, 1), (1598, .invokestatic 256, 3), (1601, .istore 5, 2), (1603, .aload_n 2, 1), (1604, .aload_n 0, 1), (1605, .iload 4, 2), (1607, .iconst 1, 1), (1608, .iadd, 1), (1609, .iaload, 1), (1610, .invokevirtual 258, 3), (1613, .istore 6, 2), (1615, .goto 42, 3)]
set_option maxRecDepth 100000 in
theorem T_law_39 : ∀ e ∈ t_law_39, decode code e.1 = .ok e.2 := by decide +kernel
def t_law_40 : List (Nat × Instr × Nat) := [(1618, .aload_n 1, 1), (1619, .invokevirtual 259, 3), (1622, .pop, 1), (1623, .aload_n 2, 1), (1624, .invokevirtual 262, 3), (1627, .pop, 1), (1628, .goto 29, 3)]
set_option maxRecDepth 100000 in
theorem T_law_40 : ∀ e ∈ t_law_40, decode code e.1 = .ok e.2 := by decide +kernel
def t_law_41 : List (Nat × Instr × Nat) := [(1631, .aload_n 1, 1), (1632, .invokevirtual 263, 3), (1635, .pop, 1), (1636, .aload_n 2, 1), (1637, .invokevirtual 266, 3), (1640, .pop, 1), (1641, .goto 16, 3)]
set_option maxRecDepth 100000 in
theorem T_law_41 : ∀ e ∈ t_law_41, decode code e.1 = .ok e.2 := by decide +kernel
def t_law_42 : List (Nat × Instr × Nat) := [(1644, .aload_n 1, 1), (1645, .invokevirtual 267, 3), (1648, .pop2, 1), (1649, .aload_n 2, 1), (1650, .invokevirtual 271, 3), (1653, .pop2, 1), (1654, .goto 3, 3)]
set_option maxRecDepth 100000 in
theorem T_law_42 : ∀ e ∈ t_law_42, decode code e.1 = .ok e.2 := by decide +kernel
def t_law_e : List (Nat × Instr × Nat) := [(1657, .iinc 4 5, 3), (1660, .goto (-1633), 3), (1663, .iconst 1, 1), (1664, .ireturn, 1)]
set_option maxRecDepth 100000 in
theorem T_law_e : ∀ e ∈ t_law_e, decode code e.1 = .ok e.2 := by decide +kernel
set_option maxRecDepth 100000 in
theorem nw_RL_8 : aj_NW RL 8 4 := ⟨by decide, (aj_i1 23 rfl rfl), (aj_i1 24 rfl rfl), (aj_i1 1 rfl rfl)⟩
set_option maxRecDepth 100000 in
theorem ml_RL_107 : Cond.methodLink RL 107 yX3_init ∈ aj_TB := (aj_i1 25 rfl rfl)
set_option maxRecDepth 100000 in
theorem nw_RL_108 : aj_NW RL 108 6 := ⟨by decide, (aj_i5 91 rfl rfl), (aj_i5 92 rfl rfl), (aj_i1 4 rfl rfl)⟩
set_option maxRecDepth 100000 in
theorem ml_RL_110 : Cond.methodLink RL 110 yX5_init ∈ aj_TB := (aj_i5 93 rfl rfl)
set_option maxRecDepth 100000 in
theorem nw_RL_14 : aj_NW RL 14 5 := ⟨by decide, (aj_i4 112 rfl rfl), (aj_i4 113 rfl rfl), (aj_i1 5 rfl rfl)⟩
set_option maxRecDepth 100000 in
theorem ml_RL_111 : (RL, 111, yX4_init, RL) ∈ aj_NM := by decide +kernel
set_option maxRecDepth 100000 in
theorem ml_RL_112 : Cond.methodLink RL 112 yL_put ∈ aj_TB := (aj_i4 122 rfl rfl)
set_option maxRecDepth 100000 in
theorem ml_RL_117 : Cond.methodLink RL 117 yX5_put ∈ aj_TB := (aj_i5 135 rfl rfl)
set_option maxRecDepth 100000 in
theorem ml_RL_118 : Cond.methodLink RL 118 yL_make ∈ aj_TB := (aj_i4 135 rfl rfl)
set_option maxRecDepth 100000 in
theorem ml_RL_121 : Cond.methodLink RL 121 yX5_make ∈ aj_TB := (aj_i5 203 rfl rfl)
set_option maxRecDepth 100000 in
theorem ml_RL_122 : Cond.methodLink RL 122 yL_stretch ∈ aj_TB := (aj_i4 147 rfl rfl)
set_option maxRecDepth 100000 in
theorem ml_RL_124 : Cond.methodLink RL 124 yX5_stretch ∈ aj_TB := (aj_i5 207 rfl rfl)
set_option maxRecDepth 100000 in
theorem ml_RL_125 : Cond.methodLink RL 125 yL_addSteps ∈ aj_TB := (aj_i4 165 rfl rfl)
set_option maxRecDepth 100000 in
theorem ml_RL_128 : Cond.methodLink RL 128 yX5_addSteps ∈ aj_TB := (aj_i5 219 rfl rfl)
set_option maxRecDepth 100000 in
theorem ml_RL_129 : Cond.methodLink RL 129 yL_takeStep ∈ aj_TB := (aj_i4 172 rfl rfl)
set_option maxRecDepth 100000 in
theorem ml_RL_131 : Cond.methodLink RL 131 yX5_takeStep ∈ aj_TB := (aj_i5 223 rfl rfl)
set_option maxRecDepth 100000 in
theorem ml_RL_132 : Cond.methodLink RL 132 yX3_sortSteps ∈ aj_TB := (aj_i1 130 rfl rfl)
set_option maxRecDepth 100000 in
theorem ml_RL_136 : Cond.methodLink RL 136 yX5_sortSteps ∈ aj_TB := (aj_i5 231 rfl rfl)
set_option maxRecDepth 100000 in
theorem ml_RL_137 : Cond.methodLink RL 137 yL_across ∈ aj_TB := (aj_i4 188 rfl rfl)
set_option maxRecDepth 100000 in
theorem ml_RL_140 : Cond.methodLink RL 140 yX5_across ∈ aj_TB := (aj_i5 239 rfl rfl)
set_option maxRecDepth 100000 in
theorem ml_RL_141 : Cond.methodLink RL 141 yL_up ∈ aj_TB := (aj_i4 192 rfl rfl)
set_option maxRecDepth 100000 in
theorem ml_RL_143 : Cond.methodLink RL 143 yX5_up ∈ aj_TB := (aj_i6 3 rfl rfl)
set_option maxRecDepth 100000 in
theorem ml_RL_144 : Cond.methodLink RL 144 yL_signs ∈ aj_TB := (aj_i4 196 rfl rfl)
set_option maxRecDepth 100000 in
theorem ml_RL_146 : Cond.methodLink RL 146 yX5_signs ∈ aj_TB := (aj_i6 7 rfl rfl)
set_option maxRecDepth 100000 in
theorem ml_RL_147 : Cond.methodLink RL 147 yL_upper ∈ aj_TB := (aj_i4 200 rfl rfl)
set_option maxRecDepth 100000 in
theorem ml_RL_149 : Cond.methodLink RL 149 yX5_upper ∈ aj_TB := (aj_i6 11 rfl rfl)
set_option maxRecDepth 100000 in
theorem ml_RL_150 : Cond.methodLink RL 150 yL_lower ∈ aj_TB := (aj_i4 204 rfl rfl)
set_option maxRecDepth 100000 in
theorem ml_RL_152 : Cond.methodLink RL 152 yX5_lower ∈ aj_TB := (aj_i6 20 rfl rfl)
set_option maxRecDepth 100000 in
theorem ml_RL_153 : Cond.methodLink RL 153 yL_grade ∈ aj_TB := (aj_i4 208 rfl rfl)
set_option maxRecDepth 100000 in
theorem ml_RL_155 : Cond.methodLink RL 155 yX5_grade ∈ aj_TB := (aj_i6 35 rfl rfl)
set_option maxRecDepth 100000 in
theorem ml_RL_156 : Cond.methodLink RL 156 yL_order ∈ aj_TB := (aj_i4 212 rfl rfl)
set_option maxRecDepth 100000 in
theorem ml_RL_158 : Cond.methodLink RL 158 yX5_order ∈ aj_TB := (aj_i6 42 rfl rfl)
set_option maxRecDepth 100000 in
theorem ml_RL_159 : Cond.methodLink RL 159 yL_like ∈ aj_TB := (aj_i4 216 rfl rfl)
set_option maxRecDepth 100000 in
theorem ml_RL_161 : Cond.methodLink RL 161 yX5_like ∈ aj_TB := (aj_i6 50 rfl rfl)
set_option maxRecDepth 100000 in
theorem ml_RL_162 : Cond.methodLink RL 162 yL_same ∈ aj_TB := (aj_i4 220 rfl rfl)
set_option maxRecDepth 100000 in
theorem ml_RL_164 : Cond.methodLink RL 164 yX5_same ∈ aj_TB := (aj_i6 58 rfl rfl)
set_option maxRecDepth 100000 in
theorem ml_RL_165 : Cond.methodLink RL 165 yL_side ∈ aj_TB := (aj_i4 227 rfl rfl)
set_option maxRecDepth 100000 in
theorem ml_RL_167 : Cond.methodLink RL 167 yX5_side ∈ aj_TB := (aj_i6 62 rfl rfl)
set_option maxRecDepth 100000 in
theorem ml_RL_168 : Cond.methodLink RL 168 yL_eighth ∈ aj_TB := (aj_i4 231 rfl rfl)
set_option maxRecDepth 100000 in
theorem ml_RL_170 : Cond.methodLink RL 170 yX5_eighth ∈ aj_TB := (aj_i6 77 rfl rfl)
set_option maxRecDepth 100000 in
theorem ml_RL_171 : Cond.methodLink RL 171 yL_rule ∈ aj_TB := (aj_i4 235 rfl rfl)
set_option maxRecDepth 100000 in
theorem ml_RL_173 : Cond.methodLink RL 173 yX5_rule ∈ aj_TB := (aj_i6 89 rfl rfl)
set_option maxRecDepth 100000 in
theorem ml_RL_174 : Cond.methodLink RL 174 yL_find ∈ aj_TB := (aj_i5 2 rfl rfl)
set_option maxRecDepth 100000 in
theorem ml_RL_177 : Cond.methodLink RL 177 yX5_find ∈ aj_TB := (aj_i6 93 rfl rfl)
set_option maxRecDepth 100000 in
theorem ml_RL_178 : Cond.methodLink RL 178 yL_addPlace ∈ aj_TB := (aj_i5 6 rfl rfl)
set_option maxRecDepth 100000 in
theorem ml_RL_180 : Cond.methodLink RL 180 yX5_addPlace ∈ aj_TB := (aj_i6 101 rfl rfl)
set_option maxRecDepth 100000 in
theorem ml_RL_181 : Cond.methodLink RL 181 yL_removePlace ∈ aj_TB := (aj_i5 24 rfl rfl)
set_option maxRecDepth 100000 in
theorem ml_RL_183 : Cond.methodLink RL 183 yX5_removePlace ∈ aj_TB := (aj_i6 112 rfl rfl)
set_option maxRecDepth 100000 in
theorem ml_RL_184 : Cond.methodLink RL 184 yL_movePlace ∈ aj_TB := (aj_i5 35 rfl rfl)
set_option maxRecDepth 100000 in
theorem ml_RL_186 : Cond.methodLink RL 186 yX5_movePlace ∈ aj_TB := (aj_i6 116 rfl rfl)
set_option maxRecDepth 100000 in
theorem ml_RL_187 : Cond.methodLink RL 187 yL_centre ∈ aj_TB := (aj_i5 46 rfl rfl)
set_option maxRecDepth 100000 in
theorem ml_RL_189 : Cond.methodLink RL 189 yX5_centre ∈ aj_TB := (aj_i6 120 rfl rfl)
set_option maxRecDepth 100000 in
theorem ml_RL_190 : Cond.methodLink RL 190 yX3_turnPlaces ∈ aj_TB := (aj_i1 150 rfl rfl)
set_option maxRecDepth 100000 in
theorem ml_RL_194 : Cond.methodLink RL 194 yX5_turnPlaces ∈ aj_TB := (aj_i6 124 rfl rfl)
set_option maxRecDepth 100000 in
theorem ml_RL_195 : Cond.methodLink RL 195 yX3_mirrorPlaces ∈ aj_TB := (aj_i1 210 rfl rfl)
set_option maxRecDepth 100000 in
theorem ml_RL_198 : Cond.methodLink RL 198 yX5_mirrorPlaces ∈ aj_TB := (aj_i6 154 rfl rfl)
set_option maxRecDepth 100000 in
theorem ml_RL_199 : Cond.methodLink RL 199 yX3_places ∈ aj_TB := (aj_i1 218 rfl rfl)
set_option maxRecDepth 100000 in
theorem ml_RL_202 : Cond.methodLink RL 202 yX5_places ∈ aj_TB := (aj_i6 158 rfl rfl)
set_option maxRecDepth 100000 in
theorem ml_RL_203 : Cond.methodLink RL 203 yL_place ∈ aj_TB := (aj_i5 53 rfl rfl)
set_option maxRecDepth 100000 in
theorem ml_RL_205 : Cond.methodLink RL 205 yX5_place ∈ aj_TB := (aj_i6 162 rfl rfl)
set_option maxRecDepth 100000 in
theorem ml_RL_206 : Cond.methodLink RL 206 yX3_centreAt ∈ aj_TB := (aj_i1 222 rfl rfl)
set_option maxRecDepth 100000 in
theorem ml_RL_209 : Cond.methodLink RL 209 yX5_centreAt ∈ aj_TB := (aj_i6 166 rfl rfl)
set_option maxRecDepth 100000 in
theorem ml_RL_210 : Cond.methodLink RL 210 yL_bearing ∈ aj_TB := (aj_i5 60 rfl rfl)
set_option maxRecDepth 100000 in
theorem ml_RL_212 : Cond.methodLink RL 212 yX5_bearing ∈ aj_TB := (aj_i6 170 rfl rfl)
set_option maxRecDepth 100000 in
theorem ml_RL_213 : Cond.methodLink RL 213 yX5_thrown ∈ aj_TB := (aj_i5 131 rfl rfl)
set_option maxRecDepth 100000 in
theorem ml_RL_216 : Cond.methodLink RL 216 yL_bearingOrder ∈ aj_TB := (aj_i5 67 rfl rfl)
set_option maxRecDepth 100000 in
theorem ml_RL_218 : Cond.methodLink RL 218 yX5_bearingOrder ∈ aj_TB := (aj_i6 174 rfl rfl)
set_option maxRecDepth 100000 in
theorem ml_RL_219 : Cond.methodLink RL 219 yL_left ∈ aj_TB := (aj_i5 78 rfl rfl)
set_option maxRecDepth 100000 in
theorem ml_RL_221 : Cond.methodLink RL 221 yX5_left ∈ aj_TB := (aj_i6 181 rfl rfl)
set_option maxRecDepth 100000 in
theorem ml_RL_222 : Cond.methodLink RL 222 yX3_roundCount ∈ aj_TB := (aj_i1 226 rfl rfl)
set_option maxRecDepth 100000 in
theorem ml_RL_225 : Cond.methodLink RL 225 yX5_roundCount ∈ aj_TB := (aj_i6 185 rfl rfl)
set_option maxRecDepth 100000 in
theorem ml_RL_226 : Cond.methodLink RL 226 yX3_roundText ∈ aj_TB := (aj_i1 230 rfl rfl)
set_option maxRecDepth 100000 in
theorem ml_RL_230 : Cond.methodLink RL 230 yX5_roundText ∈ aj_TB := (aj_i6 197 rfl rfl)
set_option maxRecDepth 100000 in
theorem ml_RL_231 : Cond.methodLink RL 231 yX3_isStar ∈ aj_TB := (aj_i3 86 rfl rfl)
set_option maxRecDepth 100000 in
theorem ml_RL_235 : Cond.methodLink RL 235 yX5_isStar ∈ aj_TB := (aj_i6 223 rfl rfl)
set_option maxRecDepth 100000 in
theorem ml_RL_236 : Cond.methodLink RL 236 yX3_starArea ∈ aj_TB := (aj_i3 109 rfl rfl)
set_option maxRecDepth 100000 in
theorem ml_RL_239 : Cond.methodLink RL 239 yX5_starArea ∈ aj_TB := (aj_i6 235 rfl rfl)
set_option maxRecDepth 100000 in
theorem ml_RL_240 : Cond.methodLink RL 240 yX3_hullCount ∈ aj_TB := (aj_i3 118 rfl rfl)
set_option maxRecDepth 100000 in
theorem ml_RL_243 : Cond.methodLink RL 243 yX5_hullCount ∈ aj_TB := (aj_i7 3 rfl rfl)
set_option maxRecDepth 100000 in
theorem ml_RL_244 : Cond.methodLink RL 244 yX3_hullText ∈ aj_TB := (aj_i3 122 rfl rfl)
set_option maxRecDepth 100000 in
theorem ml_RL_247 : Cond.methodLink RL 247 yX5_hullText ∈ aj_TB := (aj_i7 7 rfl rfl)
set_option maxRecDepth 100000 in
theorem ml_RL_248 : Cond.methodLink RL 248 yX3_hullArea ∈ aj_TB := (aj_i3 126 rfl rfl)
set_option maxRecDepth 100000 in
theorem ml_RL_251 : Cond.methodLink RL 251 yX5_hullArea ∈ aj_TB := (aj_i7 11 rfl rfl)
set_option maxRecDepth 100000 in
theorem ml_RL_252 : Cond.methodLink RL 252 yX3_rounds ∈ aj_TB := (aj_i3 130 rfl rfl)
set_option maxRecDepth 100000 in
theorem ml_RL_255 : Cond.methodLink RL 255 yX5_rounds ∈ aj_TB := (aj_i7 15 rfl rfl)
set_option maxRecDepth 100000 in
theorem ml_RL_256 : Cond.methodLink RL 256 yL_house ∈ aj_TB := (aj_i5 87 rfl rfl)
set_option maxRecDepth 100000 in
theorem ml_RL_258 : Cond.methodLink RL 258 yX5_house ∈ aj_TB := (aj_i7 23 rfl rfl)
set_option maxRecDepth 100000 in
theorem ml_RL_259 : Cond.methodLink RL 259 yX3_knock ∈ aj_TB := (aj_i3 150 rfl rfl)
set_option maxRecDepth 100000 in
theorem ml_RL_262 : Cond.methodLink RL 262 yX5_knock ∈ aj_TB := (aj_i7 27 rfl rfl)
set_option maxRecDepth 100000 in
theorem ml_RL_263 : Cond.methodLink RL 263 yX3_isSound ∈ aj_TB := (aj_i3 154 rfl rfl)
set_option maxRecDepth 100000 in
theorem ml_RL_266 : Cond.methodLink RL 266 yX5_isSound ∈ aj_TB := (aj_i7 31 rfl rfl)
set_option maxRecDepth 100000 in
theorem ml_RL_267 : Cond.methodLink RL 267 yX3_digest ∈ aj_TB := (aj_i3 232 rfl rfl)
set_option maxRecDepth 100000 in
theorem ml_RL_271 : Cond.methodLink RL 271 yX5_digest ∈ aj_TB := (aj_i7 35 rfl rfl)
section LZ
variable {G : aj_G} {cc : ByteArray} {tbl : List (Nat × Instr × Nat)} {own : String} {R0 : Room} {nL : Nat} {pc q : Nat} {lv lv' : List (Option Value)} {st st' : List Value} {I : Nat → Nat → Int32} {J : Nat → Nat → Int64} {V : Nat → Nat → Option Nat} {N : Nat → Nat} {L : List Nat} {bc bs : Nat}
theorem z_V0 {idx maxL r1 c1 s1 bc' bs' : Nat} {y : MethodName} {bytes : ByteArray} {F' : List Nat} {ret : Option FieldType} {a : Nat} (C : aj_C G cc tbl own R0 nL) (k : Nat) (h : tbl[k]? = some (pc, .invokevirtual idx, 3)) (hq : pc + 3 = q) (hl : Cond.methodLink own idx y ∈ aj_TB) (cd : aj_cd y bytes maxL ret 0) (cv : aj_cv y) (ha : a % 16 < 7 ∧ aj_R (a % 16) = y.cls) (haL : a ∈ L) (hroom : 10 + r1 + 1 ≤ R0.frames ∧ 8 + (maxL + 11) + (200 + 32 * r1) ≤ R0.locals) (hst : (st.map fun v => v.category).sum ≤ 8) (hbc : bc = c1 + bc') (hbs : bs = s1 + bs') (hF' : ∀ i ∈ F', i ∈ gF G) (hno : ∀ i ∈ F', aj_no i lv st) (hM : aj_M (gl G) y (aj_wc y bytes maxL ret) (aj_rm r1 c1 s1) F' (.ref a :: []) I J V N L (aj_kont G pc q lv st bc' bs')) : aj_X G pc lv (.ref a :: st) I J V N L bc bs := x_invV (As := []) C k h hq hl cd cv ha haL rfl hroom hst hF' hno hbc hbs hM
theorem z_V1 {idx maxL r1 c1 s1 bc' bs' : Nat} {y : MethodName} {bytes : ByteArray} {F' : List Nat} {p0 : Value} {ret : Option FieldType} {a : Nat} (C : aj_C G cc tbl own R0 nL) (k : Nat) (h : tbl[k]? = some (pc, .invokevirtual idx, 3)) (hq : pc + 3 = q) (hl : Cond.methodLink own idx y ∈ aj_TB) (cd : aj_cd y bytes maxL ret 1) (cv : aj_cv y) (ha : a % 16 < 7 ∧ aj_R (a % 16) = y.cls) (haL : a ∈ L) (hroom : 10 + r1 + 1 ≤ R0.frames ∧ 8 + (maxL + 11) + (200 + 32 * r1) ≤ R0.locals) (hst : (st.map fun v => v.category).sum ≤ 8) (hbc : bc = c1 + bc') (hbs : bs = s1 + bs') (hF' : ∀ i ∈ F', i ∈ gF G) (hno : ∀ i ∈ F', aj_no i lv st) (hM : aj_M (gl G) y (aj_wc y bytes maxL ret) (aj_rm r1 c1 s1) F' (.ref a :: [p0]) I J V N L (aj_kont G pc q lv st bc' bs')) : aj_X G pc lv (p0 :: .ref a :: st) I J V N L bc bs := x_invV (As := [p0]) C k h hq hl cd cv ha haL rfl hroom hst hF' hno hbc hbs hM
theorem z_V2 {idx maxL r1 c1 s1 bc' bs' : Nat} {y : MethodName} {bytes : ByteArray} {F' : List Nat} {p0 p1 : Value} {ret : Option FieldType} {a : Nat} (C : aj_C G cc tbl own R0 nL) (k : Nat) (h : tbl[k]? = some (pc, .invokevirtual idx, 3)) (hq : pc + 3 = q) (hl : Cond.methodLink own idx y ∈ aj_TB) (cd : aj_cd y bytes maxL ret 2) (cv : aj_cv y) (ha : a % 16 < 7 ∧ aj_R (a % 16) = y.cls) (haL : a ∈ L) (hroom : 10 + r1 + 1 ≤ R0.frames ∧ 8 + (maxL + 11) + (200 + 32 * r1) ≤ R0.locals) (hst : (st.map fun v => v.category).sum ≤ 8) (hbc : bc = c1 + bc') (hbs : bs = s1 + bs') (hF' : ∀ i ∈ F', i ∈ gF G) (hno : ∀ i ∈ F', aj_no i lv st) (hM : aj_M (gl G) y (aj_wc y bytes maxL ret) (aj_rm r1 c1 s1) F' (.ref a :: [p0, p1]) I J V N L (aj_kont G pc q lv st bc' bs')) : aj_X G pc lv (p1 :: p0 :: .ref a :: st) I J V N L bc bs := x_invV (As := [p0, p1]) C k h hq hl cd cv ha haL rfl hroom hst hF' hno hbc hbs hM
theorem z_V3 {idx maxL r1 c1 s1 bc' bs' : Nat} {y : MethodName} {bytes : ByteArray} {F' : List Nat} {p0 p1 p2 : Value} {ret : Option FieldType} {a : Nat} (C : aj_C G cc tbl own R0 nL) (k : Nat) (h : tbl[k]? = some (pc, .invokevirtual idx, 3)) (hq : pc + 3 = q) (hl : Cond.methodLink own idx y ∈ aj_TB) (cd : aj_cd y bytes maxL ret 3) (cv : aj_cv y) (ha : a % 16 < 7 ∧ aj_R (a % 16) = y.cls) (haL : a ∈ L) (hroom : 10 + r1 + 1 ≤ R0.frames ∧ 8 + (maxL + 11) + (200 + 32 * r1) ≤ R0.locals) (hst : (st.map fun v => v.category).sum ≤ 8) (hbc : bc = c1 + bc') (hbs : bs = s1 + bs') (hF' : ∀ i ∈ F', i ∈ gF G) (hno : ∀ i ∈ F', aj_no i lv st) (hM : aj_M (gl G) y (aj_wc y bytes maxL ret) (aj_rm r1 c1 s1) F' (.ref a :: [p0, p1, p2]) I J V N L (aj_kont G pc q lv st bc' bs')) : aj_X G pc lv (p2 :: p1 :: p0 :: .ref a :: st) I J V N L bc bs := x_invV (As := [p0, p1, p2]) C k h hq hl cd cv ha haL rfl hroom hst hF' hno hbc hbs hM
theorem z_V4 {idx maxL r1 c1 s1 bc' bs' : Nat} {y : MethodName} {bytes : ByteArray} {F' : List Nat} {p0 p1 p2 p3 : Value} {ret : Option FieldType} {a : Nat} (C : aj_C G cc tbl own R0 nL) (k : Nat) (h : tbl[k]? = some (pc, .invokevirtual idx, 3)) (hq : pc + 3 = q) (hl : Cond.methodLink own idx y ∈ aj_TB) (cd : aj_cd y bytes maxL ret 4) (cv : aj_cv y) (ha : a % 16 < 7 ∧ aj_R (a % 16) = y.cls) (haL : a ∈ L) (hroom : 10 + r1 + 1 ≤ R0.frames ∧ 8 + (maxL + 11) + (200 + 32 * r1) ≤ R0.locals) (hst : (st.map fun v => v.category).sum ≤ 8) (hbc : bc = c1 + bc') (hbs : bs = s1 + bs') (hF' : ∀ i ∈ F', i ∈ gF G) (hno : ∀ i ∈ F', aj_no i lv st) (hM : aj_M (gl G) y (aj_wc y bytes maxL ret) (aj_rm r1 c1 s1) F' (.ref a :: [p0, p1, p2, p3]) I J V N L (aj_kont G pc q lv st bc' bs')) : aj_X G pc lv (p3 :: p2 :: p1 :: p0 :: .ref a :: st) I J V N L bc bs := x_invV (As := [p0, p1, p2, p3]) C k h hq hl cd cv ha haL rfl hroom hst hF' hno hbc hbs hM
theorem z_T3 {idx maxL r1 c1 s1 bc' bs' : Nat} {y : MethodName} {bytes : ByteArray} {F' : List Nat} {p0 p1 p2 : Value} {ret : Option FieldType} {hh : List (Nat × Nat × Nat × Nat)} (C : aj_C G cc tbl own R0 nL) (k : Nat) (h : tbl[k]? = some (pc, .invokestatic idx, 3)) (hq : pc + 3 = q) (hl : Cond.methodLink own idx y ∈ aj_TB) (cd : aj_cw y bytes maxL ret hh 3) (hroom : 10 + r1 + 1 ≤ R0.frames ∧ 8 + (maxL + 11) + (200 + 32 * r1) ≤ R0.locals) (hst : (st.map fun v => v.category).sum ≤ 8) (hbc : bc = c1 + bc') (hbs : bs = s1 + bs') (hF' : ∀ i ∈ F', i ∈ gF G) (hno : ∀ i ∈ F', aj_no i lv st) (hM : aj_M (gl G) y (Cond.codeWith y bytes maxL ret hh :: aj_TB) (aj_rm r1 c1 s1) F' [p0, p1, p2] I J V N L (aj_kont G pc q lv st bc' bs')) : aj_X G pc lv (p2 :: p1 :: p0 :: st) I J V N L bc bs := x_invSW (As := [p0, p1, p2]) C k h hq hl cd rfl hroom hst hF' hno hbc hbs hM
theorem z_T4 {idx maxL r1 c1 s1 bc' bs' : Nat} {y : MethodName} {bytes : ByteArray} {F' : List Nat} {p0 p1 p2 p3 : Value} {ret : Option FieldType} {hh : List (Nat × Nat × Nat × Nat)} (C : aj_C G cc tbl own R0 nL) (k : Nat) (h : tbl[k]? = some (pc, .invokestatic idx, 3)) (hq : pc + 3 = q) (hl : Cond.methodLink own idx y ∈ aj_TB) (cd : aj_cw y bytes maxL ret hh 4) (hroom : 10 + r1 + 1 ≤ R0.frames ∧ 8 + (maxL + 11) + (200 + 32 * r1) ≤ R0.locals) (hst : (st.map fun v => v.category).sum ≤ 8) (hbc : bc = c1 + bc') (hbs : bs = s1 + bs') (hF' : ∀ i ∈ F', i ∈ gF G) (hno : ∀ i ∈ F', aj_no i lv st) (hM : aj_M (gl G) y (Cond.codeWith y bytes maxL ret hh :: aj_TB) (aj_rm r1 c1 s1) F' [p0, p1, p2, p3] I J V N L (aj_kont G pc q lv st bc' bs')) : aj_X G pc lv (p3 :: p2 :: p1 :: p0 :: st) I J V N L bc bs := x_invSW (As := [p0, p1, p2, p3]) C k h hq hl cd rfl hroom hst hF' hno hbc hbs hM
theorem z_T5 {idx maxL r1 c1 s1 bc' bs' : Nat} {y : MethodName} {bytes : ByteArray} {F' : List Nat} {p0 p1 p2 p3 p4 : Value} {ret : Option FieldType} {hh : List (Nat × Nat × Nat × Nat)} (C : aj_C G cc tbl own R0 nL) (k : Nat) (h : tbl[k]? = some (pc, .invokestatic idx, 3)) (hq : pc + 3 = q) (hl : Cond.methodLink own idx y ∈ aj_TB) (cd : aj_cw y bytes maxL ret hh 5) (hroom : 10 + r1 + 1 ≤ R0.frames ∧ 8 + (maxL + 11) + (200 + 32 * r1) ≤ R0.locals) (hst : (st.map fun v => v.category).sum ≤ 8) (hbc : bc = c1 + bc') (hbs : bs = s1 + bs') (hF' : ∀ i ∈ F', i ∈ gF G) (hno : ∀ i ∈ F', aj_no i lv st) (hM : aj_M (gl G) y (Cond.codeWith y bytes maxL ret hh :: aj_TB) (aj_rm r1 c1 s1) F' [p0, p1, p2, p3, p4] I J V N L (aj_kont G pc q lv st bc' bs')) : aj_X G pc lv (p4 :: p3 :: p2 :: p1 :: p0 :: st) I J V N L bc bs := x_invSW (As := [p0, p1, p2, p3, p4]) C k h hq hl cd rfl hroom hst hF' hno hbc hbs hM
theorem z_T6 {idx maxL r1 c1 s1 bc' bs' : Nat} {y : MethodName} {bytes : ByteArray} {F' : List Nat} {p0 p1 p2 p3 p4 p5 : Value} {ret : Option FieldType} {hh : List (Nat × Nat × Nat × Nat)} (C : aj_C G cc tbl own R0 nL) (k : Nat) (h : tbl[k]? = some (pc, .invokestatic idx, 3)) (hq : pc + 3 = q) (hl : Cond.methodLink own idx y ∈ aj_TB) (cd : aj_cw y bytes maxL ret hh 6) (hroom : 10 + r1 + 1 ≤ R0.frames ∧ 8 + (maxL + 11) + (200 + 32 * r1) ≤ R0.locals) (hst : (st.map fun v => v.category).sum ≤ 8) (hbc : bc = c1 + bc') (hbs : bs = s1 + bs') (hF' : ∀ i ∈ F', i ∈ gF G) (hno : ∀ i ∈ F', aj_no i lv st) (hM : aj_M (gl G) y (Cond.codeWith y bytes maxL ret hh :: aj_TB) (aj_rm r1 c1 s1) F' [p0, p1, p2, p3, p4, p5] I J V N L (aj_kont G pc q lv st bc' bs')) : aj_X G pc lv (p5 :: p4 :: p3 :: p2 :: p1 :: p0 :: st) I J V N L bc bs := x_invSW (As := [p0, p1, p2, p3, p4, p5]) C k h hq hl cd rfl hroom hst hF' hno hbc hbs hM
theorem z_I0 {idx maxL r1 c1 s1 bc' bs' : Nat} {y : MethodName} {bytes : ByteArray} {F' : List Nat} {a : Nat} (C : aj_C G cc tbl own R0 nL) (k : Nat) (h : tbl[k]? = some (pc, .invokespecial idx, 3)) (hq : pc + 3 = q) (hl : Cond.methodLink own idx y ∈ aj_TB) (cd : aj_cd y bytes maxL none 0) (cv : Cond.instanceMethod y ∈ aj_TB) (hy : y.name = "<init>") (hroom : 10 + r1 + 1 ≤ R0.frames ∧ 8 + (maxL + 11) + (200 + 32 * r1) ≤ R0.locals) (hst : (st.map fun v => v.category).sum ≤ 8) (hbc : bc = c1 + bc') (hbs : bs = s1 + bs') (hF' : ∀ i ∈ F', i ∈ gF G) (hno : ∀ i ∈ F', aj_no i lv st) (hM : aj_M (gl G) y (aj_wc y bytes maxL none) (aj_rm r1 c1 s1) F' [.ref a] I J V N L (aj_kont G pc q lv st bc' bs')) : aj_X G pc lv (.ref a :: st) I J V N L bc bs := x_invI (As := []) C k h hq hl cd cv hy rfl hroom hst hF' hno hbc hbs hM
theorem z_N0 {idx maxL r1 c1 s1 bc' bs' : Nat} {y : MethodName} {bytes : ByteArray} {F' : List Nat} {a : Nat} {host : String} (C : aj_C G cc tbl own R0 nL) (k : Nat) (h : tbl[k]? = some (pc, .invokespecial idx, 3)) (hq : pc + 3 = q) (hl : (own, idx, y, host) ∈ aj_NM) (cd : aj_cd y bytes maxL none 0) (cv : Cond.instanceMethod y ∈ aj_TB) (hy : y.name = "<init>") (hroom : 10 + r1 + 1 ≤ R0.frames ∧ 8 + (maxL + 11) + (200 + 32 * r1) ≤ R0.locals) (hst : (st.map fun v => v.category).sum ≤ 8) (hbc : bc = c1 + bc') (hbs : bs = s1 + bs') (hF' : ∀ i ∈ F', i ∈ gF G) (hno : ∀ i ∈ F', aj_no i lv st) (hM : aj_M (gl G) y (aj_wc y bytes maxL none) (aj_rm r1 c1 s1) F' [.ref a] I J V N L (aj_kont G pc q lv st bc' bs')) : aj_X G pc lv (.ref a :: st) I J V N L bc bs := x_invIN (As := []) C k h hq hl cd cv hy rfl hroom hst hF' hno hbc hbs hM
end LZ
