/-! THE LAW'S RUN -/
noncomputable def aS0 : AC := [(0, .new 8, 10, 0, 0), (3, .dup, 0, 0, 0), (4, .invokespecial 28, 61, 2, 1), (7, .astore_n 1, 0, 0, 0), (8, .new 29, 11, 0, 0), (11, .dup, 0, 0, 0), (12, .invokespecial 31, 139, 2, 1), (15, .astore_n 2, 0, 0, 0), (16, .iconst 1, 0, 0, 0), (17, .newarray .long, 1, 0, 0), (19, .astore_n 3, 0, 0, 0), (20, .iconst 0, 0, 0, 0), (21, .istore 4, 0, 0, 0), (23, .iload 4, 0, 0, 0), (25, .aload_n 0, 0, 0, 0), (26, .arraylength, 0, 0, 0), (27, .iconst 5, 0, 0, 0), (28, .isub, 0, 0, 0), (29, .if_icmp .gt 1559, 0, 0, 0), (32, .aload_n 0, 0, 0, 0), (33, .iload 4, 0, 0, 0), (35, .iaload, 0, 0, 0), (36, .bipush 63, 0, 0, 0), (38, .iand, 0, 0, 0), (39, .tableswitch 1543 0 47 #[205, 230, 255, 268, 281, 294, 307, 347, 387, 427, 467, 528, 541, 566, 615, 652, 677, 690, 703, 728, 741, 754, 779, 804, 829, 854, 879, 904, 929, 954, 991, 1028, 1053, 1078, 1103, 1140, 1153, 1166, 1179, 1216, 1241, 1278, 1327, 1376, 1413, 1438, 1463, 1488], 0, 0, 0)]
noncomputable def aS1 : AC := [(244, .aload_n 1, 0, 0, 0), (245, .aload_n 0, 0, 0, 0), (246, .iload 4, 0, 0, 0), (248, .iconst 1, 0, 0, 0), (249, .iadd, 0, 0, 0), (250, .iaload, 0, 0, 0), (251, .invokevirtual 32, 62, 0, 1002), (254, .pop, 0, 0, 0), (255, .aload_n 2, 0, 0, 0), (256, .aload_n 0, 0, 0, 0), (257, .iload 4, 0, 0, 0), (259, .iconst 1, 0, 0, 0), (260, .iadd, 0, 0, 0), (261, .iaload, 0, 0, 0), (262, .invokevirtual 36, 149, 0, 1102), (265, .pop, 0, 0, 0), (266, .goto 1316, 0, 0, 0)]
noncomputable def aS2 : AC := [(269, .aload_n 1, 0, 0, 0), (270, .aload_n 0, 0, 0, 0), (271, .iload 4, 0, 0, 0), (273, .iconst 1, 0, 0, 0), (274, .iadd, 0, 0, 0), (275, .iaload, 0, 0, 0), (276, .invokevirtual 37, 63, 0, 1002), (279, .pop, 0, 0, 0), (280, .aload_n 2, 0, 0, 0), (281, .aload_n 0, 0, 0, 0), (282, .iload 4, 0, 0, 0), (284, .iconst 1, 0, 0, 0), (285, .iadd, 0, 0, 0), (286, .iaload, 0, 0, 0), (287, .invokevirtual 41, 150, 0, 1102), (290, .pop, 0, 0, 0), (291, .goto 1291, 0, 0, 0)]
noncomputable def aS3 : AC := [(294, .aload_n 1, 0, 0, 0), (295, .invokevirtual 42, 64, 0, 1001), (298, .pop, 0, 0, 0), (299, .aload_n 2, 0, 0, 0), (300, .invokevirtual 46, 159, 0, 1101), (303, .pop, 0, 0, 0), (304, .goto 1278, 0, 0, 0)]
noncomputable def aS4 : AC := [(307, .aload_n 1, 0, 0, 0), (308, .invokevirtual 47, 65, 0, 1001), (311, .pop, 0, 0, 0), (312, .aload_n 2, 0, 0, 0), (313, .invokevirtual 50, 162, 0, 1101), (316, .pop, 0, 0, 0), (317, .goto 1265, 0, 0, 0)]
noncomputable def aS5 : AC := [(320, .aload_n 1, 0, 0, 0), (321, .invokevirtual 51, 66, 0, 1001), (324, .pop, 0, 0, 0), (325, .aload_n 2, 0, 0, 0), (326, .invokevirtual 54, 163, 0, 1101), (329, .pop, 0, 0, 0), (330, .goto 1252, 0, 0, 0)]
noncomputable def aS6 : AC := [(333, .aload_n 1, 0, 0, 0), (334, .invokevirtual 55, 67, 0, 1001), (337, .pop, 0, 0, 0), (338, .aload_n 2, 0, 0, 0), (339, .invokevirtual 58, 167, 0, 1101), (342, .pop, 0, 0, 0), (343, .goto 1239, 0, 0, 0)]
noncomputable def aS7 : AC := [(346, .aload_n 1, 0, 0, 0), (347, .aload_n 0, 0, 0, 0), (348, .iload 4, 0, 0, 0), (350, .iconst 1, 0, 0, 0), (351, .iadd, 0, 0, 0), (352, .iaload, 0, 0, 0), (353, .aload_n 0, 0, 0, 0), (354, .iload 4, 0, 0, 0), (356, .iconst 2, 0, 0, 0), (357, .iadd, 0, 0, 0), (358, .iaload, 0, 0, 0), (359, .aload_n 3, 0, 0, 0), (363, .istore 5, 0, 0, 0), (365, .aload_n 2, 0, 0, 0), (366, .aload_n 0, 0, 0, 0), (367, .iload 4, 0, 0, 0), (369, .iconst 1, 0, 0, 0), (370, .iadd, 0, 0, 0), (371, .iaload, 0, 0, 0), (372, .aload_n 0, 0, 0, 0), (373, .iload 4, 0, 0, 0), (375, .iconst 2, 0, 0, 0), (376, .iadd, 0, 0, 0), (377, .iaload, 0, 0, 0), (378, .invokevirtual 64, 172, 0, 1103), (381, .istore 6, 0, 0, 0), (383, .goto 1199, 0, 0, 0)]
noncomputable def aS8 : AC := [(386, .aload_n 1, 0, 0, 0), (387, .aload_n 0, 0, 0, 0), (388, .iload 4, 0, 0, 0), (390, .iconst 1, 0, 0, 0), (391, .iadd, 0, 0, 0), (392, .iaload, 0, 0, 0), (393, .aload_n 0, 0, 0, 0), (394, .iload 4, 0, 0, 0), (396, .iconst 2, 0, 0, 0), (397, .iadd, 0, 0, 0), (398, .iaload, 0, 0, 0), (399, .aload_n 3, 0, 0, 0), (403, .istore 5, 0, 0, 0), (405, .aload_n 2, 0, 0, 0), (406, .aload_n 0, 0, 0, 0), (407, .iload 4, 0, 0, 0), (409, .iconst 1, 0, 0, 0), (410, .iadd, 0, 0, 0), (411, .iaload, 0, 0, 0), (412, .aload_n 0, 0, 0, 0), (413, .iload 4, 0, 0, 0), (415, .iconst 2, 0, 0, 0), (416, .iadd, 0, 0, 0), (417, .iaload, 0, 0, 0), (418, .invokevirtual 67, 173, 0, 1103), (421, .istore 6, 0, 0, 0), (423, .goto 1159, 0, 0, 0)]
noncomputable def aS9 : AC := [(426, .aload_n 1, 0, 0, 0), (427, .aload_n 0, 0, 0, 0), (428, .iload 4, 0, 0, 0), (430, .iconst 1, 0, 0, 0), (431, .iadd, 0, 0, 0), (432, .iaload, 0, 0, 0), (433, .aload_n 0, 0, 0, 0), (434, .iload 4, 0, 0, 0), (436, .iconst 2, 0, 0, 0), (437, .iadd, 0, 0, 0), (438, .iaload, 0, 0, 0), (439, .aload_n 3, 0, 0, 0), (443, .istore 5, 0, 0, 0), (445, .aload_n 2, 0, 0, 0), (446, .aload_n 0, 0, 0, 0), (447, .iload 4, 0, 0, 0), (449, .iconst 1, 0, 0, 0), (450, .iadd, 0, 0, 0), (451, .iaload, 0, 0, 0), (452, .aload_n 0, 0, 0, 0), (453, .iload 4, 0, 0, 0), (455, .iconst 2, 0, 0, 0), (456, .iadd, 0, 0, 0), (457, .iaload, 0, 0, 0), (458, .invokevirtual 70, 174, 0, 1103), (461, .istore 6, 0, 0, 0), (463, .goto 1119, 0, 0, 0)]
noncomputable def aS10 : AC := [(466, .aload_n 1, 0, 0, 0), (467, .aload_n 0, 0, 0, 0), (468, .iload 4, 0, 0, 0), (470, .iconst 1, 0, 0, 0), (471, .iadd, 0, 0, 0), (472, .iaload, 0, 0, 0), (473, .aload_n 0, 0, 0, 0), (474, .iload 4, 0, 0, 0), (476, .iconst 2, 0, 0, 0), (477, .iadd, 0, 0, 0), (478, .iaload, 0, 0, 0), (479, .aload_n 3, 0, 0, 0), (483, .istore 5, 0, 0, 0), (485, .aload_n 2, 0, 0, 0), (486, .aload_n 0, 0, 0, 0), (487, .iload 4, 0, 0, 0), (489, .iconst 1, 0, 0, 0), (490, .iadd, 0, 0, 0), (491, .iaload, 0, 0, 0), (492, .aload_n 0, 0, 0, 0), (493, .iload 4, 0, 0, 0), (495, .iconst 2, 0, 0, 0), (496, .iadd, 0, 0, 0), (497, .iaload, 0, 0, 0), (498, .invokevirtual 73, 176, 0, 1103), (501, .istore 6, 0, 0, 0), (503, .goto 1079, 0, 0, 0)]
noncomputable def aS11 : AC := [(506, .aload_n 1, 0, 0, 0), (507, .aload_n 0, 0, 0, 0), (508, .iload 4, 0, 0, 0), (510, .iconst 1, 0, 0, 0), (511, .iadd, 0, 0, 0), (512, .iaload, 0, 0, 0), (513, .aload_n 0, 0, 0, 0), (514, .iload 4, 0, 0, 0), (516, .iconst 2, 0, 0, 0), (517, .iadd, 0, 0, 0), (518, .iaload, 0, 0, 0), (519, .aload_n 0, 0, 0, 0), (520, .iload 4, 0, 0, 0), (522, .iconst 3, 0, 0, 0), (523, .iadd, 0, 0, 0), (524, .iaload, 0, 0, 0), (525, .aload_n 0, 0, 0, 0), (526, .iload 4, 0, 0, 0), (528, .iconst 4, 0, 0, 0), (529, .iadd, 0, 0, 0), (530, .iaload, 0, 0, 0), (531, .invokevirtual 74, 72, 0, 1005), (534, .pop, 0, 0, 0), (535, .aload_n 2, 0, 0, 0), (536, .aload_n 0, 0, 0, 0), (537, .iload 4, 0, 0, 0), (539, .iconst 1, 0, 0, 0), (540, .iadd, 0, 0, 0), (541, .iaload, 0, 0, 0), (542, .aload_n 0, 0, 0, 0), (543, .iload 4, 0, 0, 0), (545, .iconst 2, 0, 0, 0), (546, .iadd, 0, 0, 0), (547, .iaload, 0, 0, 0), (548, .aload_n 0, 0, 0, 0), (549, .iload 4, 0, 0, 0), (551, .iconst 3, 0, 0, 0), (552, .iadd, 0, 0, 0), (553, .iaload, 0, 0, 0), (554, .aload_n 0, 0, 0, 0), (555, .iload 4, 0, 0, 0), (557, .iconst 4, 0, 0, 0), (558, .iadd, 0, 0, 0), (559, .iaload, 0, 0, 0), (560, .invokevirtual 78, 177, 0, 1105), (563, .pop, 0, 0, 0), (564, .goto 1018, 0, 0, 0)]
noncomputable def aS12 : AC := [(567, .aload_n 1, 0, 0, 0), (568, .invokevirtual 79, 73, 0, 1001), (571, .pop, 0, 0, 0), (572, .aload_n 2, 0, 0, 0), (573, .invokevirtual 82, 189, 0, 1101), (576, .pop, 0, 0, 0), (577, .goto 1005, 0, 0, 0)]
noncomputable def aS13 : AC := [(580, .aload_n 1, 0, 0, 0), (581, .aload_n 0, 0, 0, 0), (582, .iload 4, 0, 0, 0), (584, .iconst 1, 0, 0, 0), (585, .iadd, 0, 0, 0), (586, .iaload, 0, 0, 0), (587, .invokevirtual 83, 74, 0, 1002), (590, .pop, 0, 0, 0), (591, .aload_n 2, 0, 0, 0), (592, .aload_n 0, 0, 0, 0), (593, .iload 4, 0, 0, 0), (595, .iconst 1, 0, 0, 0), (596, .iadd, 0, 0, 0), (597, .iaload, 0, 0, 0), (598, .invokevirtual 86, 190, 0, 1102), (601, .pop, 0, 0, 0), (602, .goto 980, 0, 0, 0)]
noncomputable def aS14 : AC := [(605, .aload_n 1, 0, 0, 0), (606, .aload_n 0, 0, 0, 0), (607, .iload 4, 0, 0, 0), (609, .iconst 1, 0, 0, 0), (610, .iadd, 0, 0, 0), (611, .iaload, 0, 0, 0), (612, .aload_n 0, 0, 0, 0), (613, .iload 4, 0, 0, 0), (615, .iconst 2, 0, 0, 0), (616, .iadd, 0, 0, 0), (617, .iaload, 0, 0, 0), (618, .aload_n 0, 0, 0, 0), (619, .iload 4, 0, 0, 0), (621, .iconst 3, 0, 0, 0), (622, .iadd, 0, 0, 0), (623, .iaload, 0, 0, 0), (624, .invokevirtual 87, 75, 0, 1004), (627, .pop, 0, 0, 0), (628, .aload_n 2, 0, 0, 0), (629, .aload_n 0, 0, 0, 0), (630, .iload 4, 0, 0, 0), (632, .iconst 1, 0, 0, 0), (633, .iadd, 0, 0, 0), (634, .iaload, 0, 0, 0), (635, .aload_n 0, 0, 0, 0), (636, .iload 4, 0, 0, 0), (638, .iconst 2, 0, 0, 0), (639, .iadd, 0, 0, 0), (640, .iaload, 0, 0, 0), (641, .aload_n 0, 0, 0, 0), (642, .iload 4, 0, 0, 0), (644, .iconst 3, 0, 0, 0), (645, .iadd, 0, 0, 0), (646, .iaload, 0, 0, 0), (647, .invokevirtual 91, 191, 0, 1104), (650, .pop, 0, 0, 0), (651, .goto 931, 0, 0, 0)]
noncomputable def aS15 : AC := [(654, .aload_n 1, 0, 0, 0), (655, .aload_n 0, 0, 0, 0), (656, .iload 4, 0, 0, 0), (658, .iconst 1, 0, 0, 0), (659, .iadd, 0, 0, 0), (660, .iaload, 0, 0, 0), (661, .aload_n 0, 0, 0, 0), (662, .iload 4, 0, 0, 0), (664, .iconst 2, 0, 0, 0), (665, .iadd, 0, 0, 0), (666, .iaload, 0, 0, 0), (667, .invokevirtual 92, 76, 0, 1003), (670, .pop, 0, 0, 0), (671, .aload_n 2, 0, 0, 0), (672, .aload_n 0, 0, 0, 0), (673, .iload 4, 0, 0, 0), (675, .iconst 1, 0, 0, 0), (676, .iadd, 0, 0, 0), (677, .iaload, 0, 0, 0), (678, .aload_n 0, 0, 0, 0), (679, .iload 4, 0, 0, 0), (681, .iconst 2, 0, 0, 0), (682, .iadd, 0, 0, 0), (683, .iaload, 0, 0, 0), (684, .invokevirtual 95, 192, 0, 1103), (687, .pop, 0, 0, 0), (688, .goto 894, 0, 0, 0)]
noncomputable def aS16 : AC := [(691, .aload_n 1, 0, 0, 0), (692, .aload_n 0, 0, 0, 0), (693, .iload 4, 0, 0, 0), (695, .iconst 1, 0, 0, 0), (696, .iadd, 0, 0, 0), (697, .iaload, 0, 0, 0), (698, .invokevirtual 96, 77, 0, 1002), (701, .pop, 0, 0, 0), (702, .aload_n 2, 0, 0, 0), (703, .aload_n 0, 0, 0, 0), (704, .iload 4, 0, 0, 0), (706, .iconst 1, 0, 0, 0), (707, .iadd, 0, 0, 0), (708, .iaload, 0, 0, 0), (709, .invokevirtual 99, 194, 0, 1102), (712, .pop, 0, 0, 0), (713, .goto 869, 0, 0, 0)]
noncomputable def aS17 : AC := [(716, .aload_n 1, 0, 0, 0), (717, .invokevirtual 100, 78, 0, 1001), (720, .pop, 0, 0, 0), (721, .aload_n 2, 0, 0, 0), (722, .invokevirtual 103, 197, 0, 1101), (725, .pop, 0, 0, 0), (726, .goto 856, 0, 0, 0)]
noncomputable def aS18 : AC := [(729, .aload_n 1, 0, 0, 0), (730, .invokevirtual 104, 79, 0, 1001), (733, .pop, 0, 0, 0), (734, .aload_n 2, 0, 0, 0), (735, .invokevirtual 107, 181, 0, 1101), (738, .pop, 0, 0, 0), (739, .goto 843, 0, 0, 0)]
noncomputable def aS19 : AC := [(742, .aload_n 1, 0, 0, 0), (743, .aload_n 0, 0, 0, 0), (744, .iload 4, 0, 0, 0), (746, .iconst 1, 0, 0, 0), (747, .iadd, 0, 0, 0), (748, .iaload, 0, 0, 0), (749, .invokevirtual 108, 80, 0, 1002), (752, .pop, 0, 0, 0), (753, .aload_n 2, 0, 0, 0), (754, .aload_n 0, 0, 0, 0), (755, .iload 4, 0, 0, 0), (757, .iconst 1, 0, 0, 0), (758, .iadd, 0, 0, 0), (759, .iaload, 0, 0, 0), (760, .invokevirtual 111, 199, 0, 1102), (763, .pop, 0, 0, 0), (764, .goto 818, 0, 0, 0)]
noncomputable def aS20 : AC := [(767, .aload_n 1, 0, 0, 0), (768, .invokevirtual 112, 81, 0, 1001), (771, .pop, 0, 0, 0), (772, .aload_n 2, 0, 0, 0), (773, .invokevirtual 115, 200, 0, 1101), (776, .pop, 0, 0, 0), (777, .goto 805, 0, 0, 0)]
noncomputable def aS21 : AC := [(780, .aload_n 1, 0, 0, 0), (781, .invokevirtual 116, 82, 0, 1001), (784, .pop, 0, 0, 0), (785, .aload_n 2, 0, 0, 0), (786, .invokevirtual 119, 205, 0, 1101), (789, .pop, 0, 0, 0), (790, .goto 792, 0, 0, 0)]
noncomputable def aS22 : AC := [(793, .aload_n 1, 0, 0, 0), (794, .aload_n 0, 0, 0, 0), (795, .iload 4, 0, 0, 0), (797, .iconst 1, 0, 0, 0), (798, .iadd, 0, 0, 0), (799, .iaload, 0, 0, 0), (800, .invokevirtual 120, 83, 0, 1002), (803, .pop, 0, 0, 0), (804, .aload_n 2, 0, 0, 0), (805, .aload_n 0, 0, 0, 0), (806, .iload 4, 0, 0, 0), (808, .iconst 1, 0, 0, 0), (809, .iadd, 0, 0, 0), (810, .iaload, 0, 0, 0), (811, .invokevirtual 123, 210, 0, 1102), (814, .pop, 0, 0, 0), (815, .goto 767, 0, 0, 0)]
noncomputable def aS23 : AC := [(818, .aload_n 1, 0, 0, 0), (819, .aload_n 0, 0, 0, 0), (820, .iload 4, 0, 0, 0), (822, .iconst 1, 0, 0, 0), (823, .iadd, 0, 0, 0), (824, .iaload, 0, 0, 0), (825, .invokevirtual 124, 84, 0, 1002), (828, .pop, 0, 0, 0), (829, .aload_n 2, 0, 0, 0), (830, .aload_n 0, 0, 0, 0), (831, .iload 4, 0, 0, 0), (833, .iconst 1, 0, 0, 0), (834, .iadd, 0, 0, 0), (835, .iaload, 0, 0, 0), (836, .invokevirtual 127, 211, 0, 1102), (839, .pop, 0, 0, 0), (840, .goto 742, 0, 0, 0)]
noncomputable def aS24 : AC := [(843, .aload_n 1, 0, 0, 0), (844, .aload_n 0, 0, 0, 0), (845, .iload 4, 0, 0, 0), (847, .iconst 1, 0, 0, 0), (848, .iadd, 0, 0, 0), (849, .iaload, 0, 0, 0), (850, .invokevirtual 128, 85, 0, 1002), (853, .pop, 0, 0, 0), (854, .aload_n 2, 0, 0, 0), (855, .aload_n 0, 0, 0, 0), (856, .iload 4, 0, 0, 0), (858, .iconst 1, 0, 0, 0), (859, .iadd, 0, 0, 0), (860, .iaload, 0, 0, 0), (861, .invokevirtual 131, 212, 0, 1102), (864, .pop, 0, 0, 0), (865, .goto 717, 0, 0, 0)]
noncomputable def aS25 : AC := [(868, .aload_n 1, 0, 0, 0), (869, .aload_n 0, 0, 0, 0), (870, .iload 4, 0, 0, 0), (872, .iconst 1, 0, 0, 0), (873, .iadd, 0, 0, 0), (874, .iaload, 0, 0, 0), (875, .invokevirtual 132, 86, 0, 1002), (878, .pop, 0, 0, 0), (879, .aload_n 2, 0, 0, 0), (880, .aload_n 0, 0, 0, 0), (881, .iload 4, 0, 0, 0), (883, .iconst 1, 0, 0, 0), (884, .iadd, 0, 0, 0), (885, .iaload, 0, 0, 0), (886, .invokevirtual 135, 214, 0, 1102), (889, .pop, 0, 0, 0), (890, .goto 692, 0, 0, 0)]
noncomputable def aS26 : AC := [(893, .aload_n 1, 0, 0, 0), (894, .aload_n 0, 0, 0, 0), (895, .iload 4, 0, 0, 0), (897, .iconst 1, 0, 0, 0), (898, .iadd, 0, 0, 0), (899, .iaload, 0, 0, 0), (900, .invokevirtual 136, 87, 0, 1002), (903, .pop, 0, 0, 0), (904, .aload_n 2, 0, 0, 0), (905, .aload_n 0, 0, 0, 0), (906, .iload 4, 0, 0, 0), (908, .iconst 1, 0, 0, 0), (909, .iadd, 0, 0, 0), (910, .iaload, 0, 0, 0), (911, .invokevirtual 139, 215, 0, 1102), (914, .pop, 0, 0, 0), (915, .goto 667, 0, 0, 0)]
noncomputable def aS27 : AC := [(918, .aload_n 1, 0, 0, 0), (919, .aload_n 0, 0, 0, 0), (920, .iload 4, 0, 0, 0), (922, .iconst 1, 0, 0, 0), (923, .iadd, 0, 0, 0), (924, .iaload, 0, 0, 0), (925, .invokevirtual 140, 88, 0, 1002), (928, .pop, 0, 0, 0), (929, .aload_n 2, 0, 0, 0), (930, .aload_n 0, 0, 0, 0), (931, .iload 4, 0, 0, 0), (933, .iconst 1, 0, 0, 0), (934, .iadd, 0, 0, 0), (935, .iaload, 0, 0, 0), (936, .invokevirtual 143, 216, 0, 1102), (939, .pop, 0, 0, 0), (940, .goto 642, 0, 0, 0)]
noncomputable def aS28 : AC := [(943, .aload_n 1, 0, 0, 0), (944, .aload_n 0, 0, 0, 0), (945, .iload 4, 0, 0, 0), (947, .iconst 1, 0, 0, 0), (948, .iadd, 0, 0, 0), (949, .iaload, 0, 0, 0), (950, .invokevirtual 144, 89, 0, 1002), (953, .pop, 0, 0, 0), (954, .aload_n 2, 0, 0, 0), (955, .aload_n 0, 0, 0, 0), (956, .iload 4, 0, 0, 0), (958, .iconst 1, 0, 0, 0), (959, .iadd, 0, 0, 0), (960, .iaload, 0, 0, 0), (961, .invokevirtual 147, 218, 0, 1102), (964, .pop, 0, 0, 0), (965, .goto 617, 0, 0, 0)]
noncomputable def aS29 : AC := [(968, .aload_n 1, 0, 0, 0), (969, .aload_n 0, 0, 0, 0), (970, .iload 4, 0, 0, 0), (972, .iconst 1, 0, 0, 0), (973, .iadd, 0, 0, 0), (974, .iaload, 0, 0, 0), (975, .invokevirtual 148, 90, 0, 1002), (978, .pop, 0, 0, 0), (979, .aload_n 2, 0, 0, 0), (980, .aload_n 0, 0, 0, 0), (981, .iload 4, 0, 0, 0), (983, .iconst 1, 0, 0, 0), (984, .iadd, 0, 0, 0), (985, .iaload, 0, 0, 0), (986, .invokevirtual 151, 219, 0, 1102), (989, .pop, 0, 0, 0), (990, .goto 592, 0, 0, 0)]
noncomputable def aS30 : AC := [(993, .aload_n 1, 0, 0, 0), (994, .aload_n 0, 0, 0, 0), (995, .iload 4, 0, 0, 0), (997, .iconst 1, 0, 0, 0), (998, .iadd, 0, 0, 0), (999, .iaload, 0, 0, 0), (1000, .aload_n 0, 0, 0, 0), (1001, .iload 4, 0, 0, 0), (1003, .iconst 2, 0, 0, 0), (1004, .iadd, 0, 0, 0), (1005, .iaload, 0, 0, 0), (1006, .invokevirtual 152, 91, 0, 1003), (1009, .pop, 0, 0, 0), (1010, .aload_n 2, 0, 0, 0), (1011, .aload_n 0, 0, 0, 0), (1012, .iload 4, 0, 0, 0), (1014, .iconst 1, 0, 0, 0), (1015, .iadd, 0, 0, 0), (1016, .iaload, 0, 0, 0), (1017, .aload_n 0, 0, 0, 0), (1018, .iload 4, 0, 0, 0), (1020, .iconst 2, 0, 0, 0), (1021, .iadd, 0, 0, 0), (1022, .iaload, 0, 0, 0), (1023, .invokevirtual 155, 221, 0, 1103), (1026, .pop, 0, 0, 0), (1027, .goto 555, 0, 0, 0)]
noncomputable def aS31 : AC := [(1030, .aload_n 1, 0, 0, 0), (1031, .aload_n 0, 0, 0, 0), (1032, .iload 4, 0, 0, 0), (1034, .iconst 1, 0, 0, 0), (1035, .iadd, 0, 0, 0), (1036, .iaload, 0, 0, 0), (1037, .aload_n 0, 0, 0, 0), (1038, .iload 4, 0, 0, 0), (1040, .iconst 2, 0, 0, 0), (1041, .iadd, 0, 0, 0), (1042, .iaload, 0, 0, 0), (1043, .invokevirtual 156, 92, 0, 1003), (1046, .pop, 0, 0, 0), (1047, .aload_n 2, 0, 0, 0), (1048, .aload_n 0, 0, 0, 0), (1049, .iload 4, 0, 0, 0), (1051, .iconst 1, 0, 0, 0), (1052, .iadd, 0, 0, 0), (1053, .iaload, 0, 0, 0), (1054, .aload_n 0, 0, 0, 0), (1055, .iload 4, 0, 0, 0), (1057, .iconst 2, 0, 0, 0), (1058, .iadd, 0, 0, 0), (1059, .iaload, 0, 0, 0), (1060, .invokevirtual 159, 222, 0, 1103), (1063, .pop, 0, 0, 0), (1064, .goto 518, 0, 0, 0)]
noncomputable def aS32 : AC := [(1067, .aload_n 1, 0, 0, 0), (1068, .aload_n 0, 0, 0, 0), (1069, .iload 4, 0, 0, 0), (1071, .iconst 1, 0, 0, 0), (1072, .iadd, 0, 0, 0), (1073, .iaload, 0, 0, 0), (1074, .invokevirtual 160, 93, 0, 1002), (1077, .pop, 0, 0, 0), (1078, .aload_n 2, 0, 0, 0), (1079, .aload_n 0, 0, 0, 0), (1080, .iload 4, 0, 0, 0), (1082, .iconst 1, 0, 0, 0), (1083, .iadd, 0, 0, 0), (1084, .iaload, 0, 0, 0), (1085, .invokevirtual 163, 224, 0, 1102), (1088, .pop, 0, 0, 0), (1089, .goto 493, 0, 0, 0)]
noncomputable def aS33 : AC := [(1092, .aload_n 1, 0, 0, 0), (1093, .aload_n 0, 0, 0, 0), (1094, .iload 4, 0, 0, 0), (1096, .iconst 1, 0, 0, 0), (1097, .iadd, 0, 0, 0), (1098, .iaload, 0, 0, 0), (1099, .invokevirtual 164, 94, 0, 1002), (1102, .pop, 0, 0, 0), (1103, .aload_n 2, 0, 0, 0), (1104, .aload_n 0, 0, 0, 0), (1105, .iload 4, 0, 0, 0), (1107, .iconst 1, 0, 0, 0), (1108, .iadd, 0, 0, 0), (1109, .iaload, 0, 0, 0), (1110, .invokevirtual 167, 228, 0, 1102), (1113, .pop, 0, 0, 0), (1114, .goto 468, 0, 0, 0)]
noncomputable def aS34 : AC := [(1117, .aload_n 1, 0, 0, 0), (1118, .aload_n 0, 0, 0, 0), (1119, .iload 4, 0, 0, 0), (1121, .iconst 1, 0, 0, 0), (1122, .iadd, 0, 0, 0), (1123, .iaload, 0, 0, 0), (1124, .invokevirtual 168, 95, 0, 1002), (1127, .pop, 0, 0, 0), (1128, .aload_n 2, 0, 0, 0), (1129, .aload_n 0, 0, 0, 0), (1130, .iload 4, 0, 0, 0), (1132, .iconst 1, 0, 0, 0), (1133, .iadd, 0, 0, 0), (1134, .iaload, 0, 0, 0), (1135, .invokevirtual 171, 229, 0, 1102), (1138, .pop, 0, 0, 0), (1139, .goto 443, 0, 0, 0)]
noncomputable def aS35 : AC := [(1142, .aload_n 1, 0, 0, 0), (1143, .aload_n 0, 0, 0, 0), (1144, .iload 4, 0, 0, 0), (1146, .iconst 1, 0, 0, 0), (1147, .iadd, 0, 0, 0), (1148, .iaload, 0, 0, 0), (1149, .aload_n 0, 0, 0, 0), (1150, .iload 4, 0, 0, 0), (1152, .iconst 2, 0, 0, 0), (1153, .iadd, 0, 0, 0), (1154, .iaload, 0, 0, 0), (1155, .invokevirtual 172, 96, 0, 1003), (1158, .pop, 0, 0, 0), (1159, .aload_n 2, 0, 0, 0), (1160, .aload_n 0, 0, 0, 0), (1161, .iload 4, 0, 0, 0), (1163, .iconst 1, 0, 0, 0), (1164, .iadd, 0, 0, 0), (1165, .iaload, 0, 0, 0), (1166, .aload_n 0, 0, 0, 0), (1167, .iload 4, 0, 0, 0), (1169, .iconst 2, 0, 0, 0), (1170, .iadd, 0, 0, 0), (1171, .iaload, 0, 0, 0), (1172, .invokevirtual 175, 231, 0, 1103), (1175, .pop, 0, 0, 0), (1176, .goto 406, 0, 0, 0)]
noncomputable def aS36 : AC := [(1179, .aload_n 1, 0, 0, 0), (1180, .invokevirtual 176, 97, 0, 1001), (1183, .pop, 0, 0, 0), (1184, .aload_n 2, 0, 0, 0), (1185, .invokevirtual 179, 232, 0, 1101), (1188, .pop, 0, 0, 0), (1189, .goto 393, 0, 0, 0)]
noncomputable def aS37 : AC := [(1192, .aload_n 1, 0, 0, 0), (1193, .invokevirtual 180, 98, 0, 1001), (1196, .pop, 0, 0, 0), (1197, .aload_n 2, 0, 0, 0), (1198, .invokevirtual 183, 236, 0, 1101), (1201, .pop, 0, 0, 0), (1202, .goto 380, 0, 0, 0)]
noncomputable def aS38 : AC := [(1205, .aload_n 1, 0, 0, 0), (1206, .invokevirtual 184, 99, 0, 1001), (1209, .pop, 0, 0, 0), (1210, .aload_n 2, 0, 0, 0), (1211, .invokevirtual 187, 237, 0, 1101), (1214, .pop, 0, 0, 0), (1215, .goto 367, 0, 0, 0)]
noncomputable def aS39 : AC := [(1218, .aload_n 1, 0, 0, 0), (1219, .aload_n 0, 0, 0, 0), (1220, .iload 4, 0, 0, 0), (1222, .iconst 1, 0, 0, 0), (1223, .iadd, 0, 0, 0), (1224, .iaload, 0, 0, 0), (1225, .aload_n 0, 0, 0, 0), (1226, .iload 4, 0, 0, 0), (1228, .iconst 2, 0, 0, 0), (1229, .iadd, 0, 0, 0), (1230, .iaload, 0, 0, 0), (1231, .invokevirtual 188, 100, 0, 1003), (1234, .pop, 0, 0, 0), (1235, .aload_n 2, 0, 0, 0), (1236, .aload_n 0, 0, 0, 0), (1237, .iload 4, 0, 0, 0), (1239, .iconst 1, 0, 0, 0), (1240, .iadd, 0, 0, 0), (1241, .iaload, 0, 0, 0), (1242, .aload_n 0, 0, 0, 0), (1243, .iload 4, 0, 0, 0), (1245, .iconst 2, 0, 0, 0), (1246, .iadd, 0, 0, 0), (1247, .iaload, 0, 0, 0), (1248, .invokevirtual 191, 241, 0, 1103), (1251, .pop, 0, 0, 0), (1252, .goto 330, 0, 0, 0)]
noncomputable def aS40 : AC := [(1255, .aload_n 1, 0, 0, 0), (1256, .aload_n 0, 0, 0, 0), (1257, .iload 4, 0, 0, 0), (1259, .iconst 1, 0, 0, 0), (1260, .iadd, 0, 0, 0), (1261, .iaload, 0, 0, 0), (1262, .invokevirtual 192, 101, 0, 1002), (1265, .pop, 0, 0, 0), (1266, .aload_n 2, 0, 0, 0), (1267, .aload_n 0, 0, 0, 0), (1268, .iload 4, 0, 0, 0), (1270, .iconst 1, 0, 0, 0), (1271, .iadd, 0, 0, 0), (1272, .iaload, 0, 0, 0), (1273, .invokevirtual 195, 242, 0, 1102), (1276, .pop, 0, 0, 0), (1277, .goto 305, 0, 0, 0)]
noncomputable def aS41 : AC := [(1280, .aload_n 1, 0, 0, 0), (1281, .aload_n 0, 0, 0, 0), (1282, .iload 4, 0, 0, 0), (1284, .iconst 1, 0, 0, 0), (1285, .iadd, 0, 0, 0), (1286, .iaload, 0, 0, 0), (1287, .aload_n 0, 0, 0, 0), (1288, .iload 4, 0, 0, 0), (1290, .iconst 2, 0, 0, 0), (1291, .iadd, 0, 0, 0), (1292, .iaload, 0, 0, 0), (1293, .invokevirtual 196, 102, 0, 1003), (1296, .pop, 0, 0, 0), (1297, .aload_n 2, 0, 0, 0), (1298, .aload_n 0, 0, 0, 0), (1299, .iload 4, 0, 0, 0), (1301, .iconst 1, 0, 0, 0), (1302, .iadd, 0, 0, 0), (1303, .iaload, 0, 0, 0), (1304, .aload_n 0, 0, 0, 0), (1305, .iload 4, 0, 0, 0), (1307, .iconst 2, 0, 0, 0), (1308, .iadd, 0, 0, 0), (1309, .iaload, 0, 0, 0), (1310, .invokevirtual 199, 243, 0, 1103), (1313, .pop, 0, 0, 0), (1314, .goto 268, 0, 0, 0)]
noncomputable def aS42 : AC := [(1317, .aload_n 1, 0, 0, 0), (1318, .aload_n 0, 0, 0, 0), (1319, .iload 4, 0, 0, 0), (1321, .iconst 1, 0, 0, 0), (1322, .iadd, 0, 0, 0), (1323, .iaload, 0, 0, 0), (1324, .aload_n 0, 0, 0, 0), (1325, .iload 4, 0, 0, 0), (1327, .iconst 2, 0, 0, 0), (1328, .iadd, 0, 0, 0), (1329, .iaload, 0, 0, 0), (1330, .aload_n 0, 0, 0, 0), (1331, .iload 4, 0, 0, 0), (1333, .iconst 3, 0, 0, 0), (1334, .iadd, 0, 0, 0), (1335, .iaload, 0, 0, 0), (1336, .invokevirtual 200, 103, 0, 1004), (1339, .pop, 0, 0, 0), (1340, .aload_n 2, 0, 0, 0), (1341, .aload_n 0, 0, 0, 0), (1342, .iload 4, 0, 0, 0), (1344, .iconst 1, 0, 0, 0), (1345, .iadd, 0, 0, 0), (1346, .iaload, 0, 0, 0), (1347, .aload_n 0, 0, 0, 0), (1348, .iload 4, 0, 0, 0), (1350, .iconst 2, 0, 0, 0), (1351, .iadd, 0, 0, 0), (1352, .iaload, 0, 0, 0), (1353, .aload_n 0, 0, 0, 0), (1354, .iload 4, 0, 0, 0), (1356, .iconst 3, 0, 0, 0), (1357, .iadd, 0, 0, 0), (1358, .iaload, 0, 0, 0), (1359, .invokevirtual 203, 246, 0, 1104), (1362, .pop, 0, 0, 0), (1363, .goto 219, 0, 0, 0)]
noncomputable def aS43 : AC := [(1366, .aload_n 1, 0, 0, 0), (1367, .aload_n 0, 0, 0, 0), (1368, .iload 4, 0, 0, 0), (1370, .iconst 1, 0, 0, 0), (1371, .iadd, 0, 0, 0), (1372, .iaload, 0, 0, 0), (1373, .aload_n 0, 0, 0, 0), (1374, .iload 4, 0, 0, 0), (1376, .iconst 2, 0, 0, 0), (1377, .iadd, 0, 0, 0), (1378, .iaload, 0, 0, 0), (1379, .aload_n 0, 0, 0, 0), (1380, .iload 4, 0, 0, 0), (1382, .iconst 3, 0, 0, 0), (1383, .iadd, 0, 0, 0), (1384, .iaload, 0, 0, 0), (1385, .invokevirtual 204, 104, 0, 1004), (1388, .pop, 0, 0, 0), (1389, .aload_n 2, 0, 0, 0), (1390, .aload_n 0, 0, 0, 0), (1391, .iload 4, 0, 0, 0), (1393, .iconst 1, 0, 0, 0), (1394, .iadd, 0, 0, 0), (1395, .iaload, 0, 0, 0), (1396, .aload_n 0, 0, 0, 0), (1397, .iload 4, 0, 0, 0), (1399, .iconst 2, 0, 0, 0), (1400, .iadd, 0, 0, 0), (1401, .iaload, 0, 0, 0), (1402, .aload_n 0, 0, 0, 0), (1403, .iload 4, 0, 0, 0), (1405, .iconst 3, 0, 0, 0), (1406, .iadd, 0, 0, 0), (1407, .iaload, 0, 0, 0), (1408, .invokevirtual 207, 247, 0, 1104), (1411, .pop, 0, 0, 0), (1412, .goto 170, 0, 0, 0)]
noncomputable def aS44 : AC := [(1415, .aload_n 1, 0, 0, 0), (1416, .aload_n 0, 0, 0, 0), (1417, .iload 4, 0, 0, 0), (1419, .iconst 1, 0, 0, 0), (1420, .iadd, 0, 0, 0), (1421, .iaload, 0, 0, 0), (1422, .aload_n 0, 0, 0, 0), (1423, .iload 4, 0, 0, 0), (1425, .iconst 2, 0, 0, 0), (1426, .iadd, 0, 0, 0), (1427, .iaload, 0, 0, 0), (1428, .invokevirtual 208, 105, 0, 1003), (1431, .pop, 0, 0, 0), (1432, .aload_n 2, 0, 0, 0), (1433, .aload_n 0, 0, 0, 0), (1434, .iload 4, 0, 0, 0), (1436, .iconst 1, 0, 0, 0), (1437, .iadd, 0, 0, 0), (1438, .iaload, 0, 0, 0), (1439, .aload_n 0, 0, 0, 0), (1440, .iload 4, 0, 0, 0), (1442, .iconst 2, 0, 0, 0), (1443, .iadd, 0, 0, 0), (1444, .iaload, 0, 0, 0), (1445, .invokevirtual 211, 248, 0, 1103), (1448, .pop, 0, 0, 0), (1449, .goto 133, 0, 0, 0)]
noncomputable def aS45 : AC := [(1452, .aload_n 1, 0, 0, 0), (1453, .aload_n 0, 0, 0, 0), (1454, .iload 4, 0, 0, 0), (1456, .iconst 1, 0, 0, 0), (1457, .iadd, 0, 0, 0), (1458, .iaload, 0, 0, 0), (1459, .invokevirtual 212, 106, 0, 1002), (1462, .pop, 0, 0, 0), (1463, .aload_n 2, 0, 0, 0), (1464, .aload_n 0, 0, 0, 0), (1465, .iload 4, 0, 0, 0), (1467, .iconst 1, 0, 0, 0), (1468, .iadd, 0, 0, 0), (1469, .iaload, 0, 0, 0), (1470, .invokevirtual 215, 249, 0, 1102), (1473, .pop, 0, 0, 0), (1474, .goto 108, 0, 0, 0)]
noncomputable def aS46 : AC := [(1477, .aload_n 1, 0, 0, 0), (1478, .aload_n 0, 0, 0, 0), (1479, .iload 4, 0, 0, 0), (1481, .iconst 1, 0, 0, 0), (1482, .iadd, 0, 0, 0), (1483, .iaload, 0, 0, 0), (1484, .invokevirtual 216, 107, 0, 1002), (1487, .pop, 0, 0, 0), (1488, .aload_n 2, 0, 0, 0), (1489, .aload_n 0, 0, 0, 0), (1490, .iload 4, 0, 0, 0), (1492, .iconst 1, 0, 0, 0), (1493, .iadd, 0, 0, 0), (1494, .iaload, 0, 0, 0), (1495, .invokevirtual 219, 250, 0, 1102), (1498, .pop, 0, 0, 0), (1499, .goto 83, 0, 0, 0)]
noncomputable def aS47 : AC := [(1502, .aload_n 1, 0, 0, 0), (1503, .aload_n 0, 0, 0, 0), (1504, .iload 4, 0, 0, 0), (1506, .iconst 1, 0, 0, 0), (1507, .iadd, 0, 0, 0), (1508, .iaload, 0, 0, 0), (1509, .invokevirtual 220, 108, 0, 1002), (1512, .pop, 0, 0, 0), (1513, .aload_n 2, 0, 0, 0), (1514, .aload_n 0, 0, 0, 0), (1515, .iload 4, 0, 0, 0), (1517, .iconst 1, 0, 0, 0), (1518, .iadd, 0, 0, 0), (1519, .iaload, 0, 0, 0), (1520, .invokevirtual 223, 251, 0, 1102), (1523, .pop, 0, 0, 0), (1524, .goto 58, 0, 0, 0)]
noncomputable def aS48 : AC := [(1527, .aload_n 1, 0, 0, 0), (1528, .aload_n 0, 0, 0, 0), (1529, .iload 4, 0, 0, 0), (1531, .iconst 1, 0, 0, 0), (1532, .iadd, 0, 0, 0), (1533, .iaload, 0, 0, 0), (1534, .aload_n 3, 0, 0, 0), (1538, .istore 5, 0, 0, 0), (1540, .aload_n 2, 0, 0, 0), (1541, .aload_n 0, 0, 0, 0), (1542, .iload 4, 0, 0, 0), (1544, .iconst 1, 0, 0, 0), (1545, .iadd, 0, 0, 0), (1546, .iaload, 0, 0, 0), (1547, .invokevirtual 227, 252, 0, 1102), (1550, .lstore 6, 0, 0, 0), (1552, .aload_n 2, 0, 0, 0), (1553, .invokevirtual 228, 140, 0, 1101), (1556, .iload 5, 0, 0, 0), (1558, .if_icmp .eq 5, 0, 0, 0), (1561, .iconst 0, 0, 0, 0), (1562, .ireturn, 0, 0, 0), (1563, .iload 5, 0, 0, 0), (1565, .ifCond .ne 14, 0, 0, 0), (1568, .aload_n 3, 0, 0, 0), (1569, .iconst 0, 0, 0, 0), (1570, .laload, 0, 0, 0), (1571, .lload 6, 0, 0, 0), (1573, .lcmp, 0, 0, 0), (1574, .ifCond .eq 5, 0, 0, 0), (1577, .iconst 0, 0, 0, 0), (1578, .ireturn, 0, 0, 0), (1579, .goto 3, 0, 0, 0)]
noncomputable def aS49 : AC := [(1582, .iinc 4 5, 0, 0, 0), (1585, .goto (-1562), 0, 0, 0), (1588, .iconst 1, 0, 0, 0), (1589, .ireturn, 0, 0, 0)]
noncomputable def lawS : List AC := [aS0, aS1, aS2, aS3, aS4, aS5, aS6, aS7, aS8, aS9, aS10, aS11, aS12, aS13, aS14, aS15, aS16, aS17, aS18, aS19, aS20, aS21, aS22, aS23, aS24, aS25, aS26, aS27, aS28, aS29, aS30, aS31, aS32, aS33, aS34, aS35, aS36, aS37, aS38, aS39, aS40, aS41, aS42, aS43, aS44, aS45, aS46, aS47, aS48, aS49]
noncomputable def ac9L_law : AC := lawS.flatten
set_option maxRecDepth 100000 in
theorem okS0 : acok (x, code, 8, (some .boolean), aS0, 12, 0) := acokB_ok (hs := [[1025, 1026, 1001], [], [1027, 1028], [], [5031, 5032, 1013], [], [5033, 5034], [], [], [1080], [], [], [], [], [], [], [], [], [], [], [], [], [], [], [205]]) (by decide +kernel)
set_option maxRecDepth 100000 in
theorem okS1 : acok (x, code, 8, (some .boolean), aS1, 12, 0) := acokB_ok (hs := [[], [], [], [], [], [], [2118, 2119, 2120], [], [], [], [], [], [], [], [5201, 5202, 5203]]) (by decide +kernel)
set_option maxRecDepth 100000 in
theorem okS2 : acok (x, code, 8, (some .boolean), aS2, 12, 0) := acokB_ok (hs := [[], [], [], [], [], [], [2126, 2127, 2128], [], [], [], [], [], [], [], [5205, 5206, 5207]]) (by decide +kernel)
set_option maxRecDepth 100000 in
theorem okS3 : acok (x, code, 8, (some .boolean), aS3, 12, 0) := acokB_ok (hs := [[], [2130, 2131, 2132], [], [], [5212, 5213, 5214]]) (by decide +kernel)
set_option maxRecDepth 100000 in
theorem okS4 : acok (x, code, 8, (some .boolean), aS4, 12, 0) := acokB_ok (hs := [[], [2173, 2174, 2175], [], [], [6006, 6007, 6008]]) (by decide +kernel)
set_option maxRecDepth 100000 in
theorem okS5 : acok (x, code, 8, (some .boolean), aS5, 12, 0) := acokB_ok (hs := [[], [2186, 2187, 2188], [], [], [6072, 6073, 6074]]) (by decide +kernel)
set_option maxRecDepth 100000 in
theorem okS6 : acok (x, code, 8, (some .boolean), aS6, 12, 0) := acokB_ok (hs := [[], [2202, 2203, 2204], [], [], [6080, 6081, 6082]]) (by decide +kernel)
set_option maxRecDepth 100000 in
theorem okS7 : acok (x, code, 8, (some .boolean), aS7, 12, 0) := acokB_ok (hs := [[], [], [], [], [], [], [], [], [], [], [], [], [], [], [], [], [], [], [], [], [], [], [], [], [6100, 6101, 6102]]) (by decide +kernel)
set_option maxRecDepth 100000 in
theorem okS8 : acok (x, code, 8, (some .boolean), aS8, 12, 0) := acokB_ok (hs := [[], [], [], [], [], [], [], [], [], [], [], [], [], [], [], [], [], [], [], [], [], [], [], [], [6108, 6109, 6110]]) (by decide +kernel)
set_option maxRecDepth 100000 in
theorem okS9 : acok (x, code, 8, (some .boolean), aS9, 12, 0) := acokB_ok (hs := [[], [], [], [], [], [], [], [], [], [], [], [], [], [], [], [], [], [], [], [], [], [], [], [], [6112, 6113, 6114]]) (by decide +kernel)
set_option maxRecDepth 100000 in
theorem okS10 : acok (x, code, 8, (some .boolean), aS10, 12, 0) := acokB_ok (hs := [[], [], [], [], [], [], [], [], [], [], [], [], [], [], [], [], [], [], [], [], [], [], [], [], [6121, 6122, 6123]]) (by decide +kernel)
set_option maxRecDepth 100000 in
theorem okS11 : acok (x, code, 8, (some .boolean), aS11, 12, 0) := acokB_ok (hs := [[], [], [], [], [], [], [], [], [], [], [], [], [], [], [], [], [], [], [], [], [], [2238, 2239, 3000], [], [], [], [], [], [], [], [], [], [], [], [], [], [], [], [], [], [], [], [], [], [], [6129, 6130, 6131]]) (by decide +kernel)
set_option maxRecDepth 100000 in
theorem okS12 : acok (x, code, 8, (some .boolean), aS12, 12, 0) := acokB_ok (hs := [[], [3012, 3013, 3014], [], [], [6139, 6140, 6141]]) (by decide +kernel)
set_option maxRecDepth 100000 in
theorem okS13 : acok (x, code, 8, (some .boolean), aS13, 12, 0) := acokB_ok (hs := [[], [], [], [], [], [], [3039, 3040, 3041], [], [], [], [], [], [], [], [6154, 6155, 6156]]) (by decide +kernel)
set_option maxRecDepth 100000 in
theorem okS14 : acok (x, code, 8, (some .boolean), aS14, 12, 0) := acokB_ok (hs := [[], [], [], [], [], [], [], [], [], [], [], [], [], [], [], [], [3070, 3071, 3072], [], [], [], [], [], [], [], [], [], [], [], [], [], [], [], [], [], [6179, 6180, 6181]]) (by decide +kernel)
set_option maxRecDepth 100000 in
theorem okS15 : acok (x, code, 8, (some .boolean), aS15, 12, 0) := acokB_ok (hs := [[], [], [], [], [], [], [], [], [], [], [], [3082, 3083, 3084], [], [], [], [], [], [], [], [], [], [], [], [], [6188, 6189, 6190]]) (by decide +kernel)
set_option maxRecDepth 100000 in
theorem okS16 : acok (x, code, 8, (some .boolean), aS16, 12, 0) := acokB_ok (hs := [[], [], [], [], [], [], [3086, 3087, 3088], [], [], [], [], [], [], [], [6196, 6197, 6198]]) (by decide +kernel)
set_option maxRecDepth 100000 in
theorem okS17 : acok (x, code, 8, (some .boolean), aS17, 12, 0) := acokB_ok (hs := [[], [3117, 3118, 3119], [], [], [6223, 6224, 6225]]) (by decide +kernel)
set_option maxRecDepth 100000 in
theorem okS18 : acok (x, code, 8, (some .boolean), aS18, 12, 0) := acokB_ok (hs := [[], [3132, 3133, 3134], [], [], [6135, 6136, 6137]]) (by decide +kernel)
set_option maxRecDepth 100000 in
theorem okS19 : acok (x, code, 8, (some .boolean), aS19, 12, 0) := acokB_ok (hs := [[], [], [], [], [], [], [3140, 3141, 3142], [], [], [], [], [], [], [], [6236, 6237, 6238]]) (by decide +kernel)
set_option maxRecDepth 100000 in
theorem okS20 : acok (x, code, 8, (some .boolean), aS20, 12, 0) := acokB_ok (hs := [[], [3152, 3153, 3154], [], [], [7004, 7005, 7006]]) (by decide +kernel)
set_option maxRecDepth 100000 in
theorem okS21 : acok (x, code, 8, (some .boolean), aS21, 12, 0) := acokB_ok (hs := [[], [3156, 3157, 3158], [], [], [7008, 7009, 7010]]) (by decide +kernel)
set_option maxRecDepth 100000 in
theorem okS22 : acok (x, code, 8, (some .boolean), aS22, 12, 0) := acokB_ok (hs := [[], [], [], [], [], [], [3180, 3181, 3182], [], [], [], [], [], [], [], [7030, 7031, 7032]]) (by decide +kernel)
set_option maxRecDepth 100000 in
theorem okS23 : acok (x, code, 8, (some .boolean), aS23, 12, 0) := acokB_ok (hs := [[], [], [], [], [], [], [3214, 3215, 3216], [], [], [], [], [], [], [], [7051, 7052, 7053]]) (by decide +kernel)
set_option maxRecDepth 100000 in
theorem okS24 : acok (x, code, 8, (some .boolean), aS24, 12, 0) := acokB_ok (hs := [[], [], [], [], [], [], [3218, 3219, 3220], [], [], [], [], [], [], [], [7055, 7056, 7057]]) (by decide +kernel)
set_option maxRecDepth 100000 in
theorem okS25 : acok (x, code, 8, (some .boolean), aS25, 12, 0) := acokB_ok (hs := [[], [], [], [], [], [], [3228, 3229, 3230], [], [], [], [], [], [], [], [7060, 7061, 7062]]) (by decide +kernel)
set_option maxRecDepth 100000 in
theorem okS26 : acok (x, code, 8, (some .boolean), aS26, 12, 0) := acokB_ok (hs := [[], [], [], [], [], [], [4003, 4004, 4005], [], [], [], [], [], [], [], [7070, 7071, 7072]]) (by decide +kernel)
set_option maxRecDepth 100000 in
theorem okS27 : acok (x, code, 8, (some .boolean), aS27, 12, 0) := acokB_ok (hs := [[], [], [], [], [], [], [4011, 4012, 4013], [], [], [], [], [], [], [], [7074, 7075, 7076]]) (by decide +kernel)
set_option maxRecDepth 100000 in
theorem okS28 : acok (x, code, 8, (some .boolean), aS28, 12, 0) := acokB_ok (hs := [[], [], [], [], [], [], [4015, 4016, 4017], [], [], [], [], [], [], [], [7079, 7080, 7081]]) (by decide +kernel)
set_option maxRecDepth 100000 in
theorem okS29 : acok (x, code, 8, (some .boolean), aS29, 12, 0) := acokB_ok (hs := [[], [], [], [], [], [], [4019, 4020, 4021], [], [], [], [], [], [], [], [7088, 7089, 7090]]) (by decide +kernel)
set_option maxRecDepth 100000 in
theorem okS30 : acok (x, code, 8, (some .boolean), aS30, 12, 0) := acokB_ok (hs := [[], [], [], [], [], [], [], [], [], [], [], [4023, 4024, 4025], [], [], [], [], [], [], [], [], [], [], [], [], [7093, 7094, 7095]]) (by decide +kernel)
set_option maxRecDepth 100000 in
theorem okS31 : acok (x, code, 8, (some .boolean), aS31, 12, 0) := acokB_ok (hs := [[], [], [], [], [], [], [], [], [], [], [], [4039, 4040, 4041], [], [], [], [], [], [], [], [], [], [], [], [], [7109, 7110, 7111]]) (by decide +kernel)
set_option maxRecDepth 100000 in
theorem okS32 : acok (x, code, 8, (some .boolean), aS32, 12, 0) := acokB_ok (hs := [[], [], [], [], [], [], [4044, 4045, 4046], [], [], [], [], [], [], [], [7114, 7115, 7116]]) (by decide +kernel)
set_option maxRecDepth 100000 in
theorem okS33 : acok (x, code, 8, (some .boolean), aS33, 12, 0) := acokB_ok (hs := [[], [], [], [], [], [], [4053, 4054, 4055], [], [], [], [], [], [], [], [7123, 7124, 7125]]) (by decide +kernel)
set_option maxRecDepth 100000 in
theorem okS34 : acok (x, code, 8, (some .boolean), aS34, 12, 0) := acokB_ok (hs := [[], [], [], [], [], [], [4070, 4071, 4072], [], [], [], [], [], [], [], [7140, 7141, 7142]]) (by decide +kernel)
set_option maxRecDepth 100000 in
theorem okS35 : acok (x, code, 8, (some .boolean), aS35, 12, 0) := acokB_ok (hs := [[], [], [], [], [], [], [], [], [], [], [], [4078, 4079, 4080], [], [], [], [], [], [], [], [], [], [], [], [], [7144, 7145, 7146]]) (by decide +kernel)
set_option maxRecDepth 100000 in
theorem okS36 : acok (x, code, 8, (some .boolean), aS36, 12, 0) := acokB_ok (hs := [[], [4082, 4083, 4084], [], [], [7154, 7155, 7156]]) (by decide +kernel)
set_option maxRecDepth 100000 in
theorem okS37 : acok (x, code, 8, (some .boolean), aS37, 12, 0) := acokB_ok (hs := [[], [4090, 4091, 4092], [], [], [7158, 7159, 7160]]) (by decide +kernel)
set_option maxRecDepth 100000 in
theorem okS38 : acok (x, code, 8, (some .boolean), aS38, 12, 0) := acokB_ok (hs := [[], [4113, 4114, 4115], [], [], [7174, 7175, 7176]]) (by decide +kernel)
set_option maxRecDepth 100000 in
theorem okS39 : acok (x, code, 8, (some .boolean), aS39, 12, 0) := acokB_ok (hs := [[], [], [], [], [], [], [], [], [], [], [], [4122, 4123, 4124], [], [], [], [], [], [], [], [], [], [], [], [], [7178, 7179, 7180]]) (by decide +kernel)
set_option maxRecDepth 100000 in
theorem okS40 : acok (x, code, 8, (some .boolean), aS40, 12, 0) := acokB_ok (hs := [[], [], [], [], [], [], [4135, 4136, 4137], [], [], [], [], [], [], [], [7195, 7196, 7197]]) (by decide +kernel)
set_option maxRecDepth 100000 in
theorem okS41 : acok (x, code, 8, (some .boolean), aS41, 12, 0) := acokB_ok (hs := [[], [], [], [], [], [], [], [], [], [], [], [4139, 4140, 4141], [], [], [], [], [], [], [], [], [], [], [], [], [7199, 7200, 7201]]) (by decide +kernel)
set_option maxRecDepth 100000 in
theorem okS42 : acok (x, code, 8, (some .boolean), aS42, 12, 0) := acokB_ok (hs := [[], [], [], [], [], [], [], [], [], [], [], [], [], [], [], [], [4143, 4144, 4145], [], [], [], [], [], [], [], [], [], [], [], [], [], [], [], [], [], [7203, 7204, 7205]]) (by decide +kernel)
set_option maxRecDepth 100000 in
theorem okS43 : acok (x, code, 8, (some .boolean), aS43, 12, 0) := acokB_ok (hs := [[], [], [], [], [], [], [], [], [], [], [], [], [], [], [], [], [4153, 4154, 4155], [], [], [], [], [], [], [], [], [], [], [], [], [], [], [], [], [], [7215, 7216, 7217]]) (by decide +kernel)
set_option maxRecDepth 100000 in
theorem okS44 : acok (x, code, 8, (some .boolean), aS44, 12, 0) := acokB_ok (hs := [[], [], [], [], [], [], [], [], [], [], [], [4157, 4158, 4159], [], [], [], [], [], [], [], [], [], [], [], [], [7219, 7220, 7221]]) (by decide +kernel)
set_option maxRecDepth 100000 in
theorem okS45 : acok (x, code, 8, (some .boolean), aS45, 12, 0) := acokB_ok (hs := [[], [], [], [], [], [], [4162, 4163, 4164], [], [], [], [], [], [], [], [7224, 7225, 7226]]) (by decide +kernel)
set_option maxRecDepth 100000 in
theorem okS46 : acok (x, code, 8, (some .boolean), aS46, 12, 0) := acokB_ok (hs := [[], [], [], [], [], [], [4166, 4167, 4168], [], [], [], [], [], [], [], [7228, 7229, 7230]]) (by decide +kernel)
set_option maxRecDepth 100000 in
theorem okS47 : acok (x, code, 8, (some .boolean), aS47, 12, 0) := acokB_ok (hs := [[], [], [], [], [], [], [4170, 4171, 4172], [], [], [], [], [], [], [], [7232, 7233, 7234]]) (by decide +kernel)
set_option maxRecDepth 100000 in
theorem okS48 : acok (x, code, 8, (some .boolean), aS48, 12, 0) := acokB_ok (hs := [[], [], [], [], [], [], [], [], [], [], [], [], [], [], [7236, 7237, 7238], [], [], [5197, 5198, 5199]]) (by decide +kernel)
set_option maxRecDepth 100000 in
theorem okS49 : acok (x, code, 8, (some .boolean), aS49, 12, 0) := acokB_ok (hs := []) (by decide +kernel)
theorem okS : ∀ S ∈ lawS, acok (x, code, 8, (some .boolean), S, 12, 0) := List.forall_mem_cons.mpr ⟨okS0, List.forall_mem_cons.mpr ⟨okS1, List.forall_mem_cons.mpr ⟨okS2, List.forall_mem_cons.mpr ⟨okS3, List.forall_mem_cons.mpr ⟨okS4, List.forall_mem_cons.mpr ⟨okS5, List.forall_mem_cons.mpr ⟨okS6, List.forall_mem_cons.mpr ⟨okS7, List.forall_mem_cons.mpr ⟨okS8, List.forall_mem_cons.mpr ⟨okS9, List.forall_mem_cons.mpr ⟨okS10, List.forall_mem_cons.mpr ⟨okS11, List.forall_mem_cons.mpr ⟨okS12, List.forall_mem_cons.mpr ⟨okS13, List.forall_mem_cons.mpr ⟨okS14, List.forall_mem_cons.mpr ⟨okS15, List.forall_mem_cons.mpr ⟨okS16, List.forall_mem_cons.mpr ⟨okS17, List.forall_mem_cons.mpr ⟨okS18, List.forall_mem_cons.mpr ⟨okS19, List.forall_mem_cons.mpr ⟨okS20, List.forall_mem_cons.mpr ⟨okS21, List.forall_mem_cons.mpr ⟨okS22, List.forall_mem_cons.mpr ⟨okS23, List.forall_mem_cons.mpr ⟨okS24, List.forall_mem_cons.mpr ⟨okS25, List.forall_mem_cons.mpr ⟨okS26, List.forall_mem_cons.mpr ⟨okS27, List.forall_mem_cons.mpr ⟨okS28, List.forall_mem_cons.mpr ⟨okS29, List.forall_mem_cons.mpr ⟨okS30, List.forall_mem_cons.mpr ⟨okS31, List.forall_mem_cons.mpr ⟨okS32, List.forall_mem_cons.mpr ⟨okS33, List.forall_mem_cons.mpr ⟨okS34, List.forall_mem_cons.mpr ⟨okS35, List.forall_mem_cons.mpr ⟨okS36, List.forall_mem_cons.mpr ⟨okS37, List.forall_mem_cons.mpr ⟨okS38, List.forall_mem_cons.mpr ⟨okS39, List.forall_mem_cons.mpr ⟨okS40, List.forall_mem_cons.mpr ⟨okS41, List.forall_mem_cons.mpr ⟨okS42, List.forall_mem_cons.mpr ⟨okS43, List.forall_mem_cons.mpr ⟨okS44, List.forall_mem_cons.mpr ⟨okS45, List.forall_mem_cons.mpr ⟨okS46, List.forall_mem_cons.mpr ⟨okS47, List.forall_mem_cons.mpr ⟨okS48, List.forall_mem_cons.mpr ⟨okS49, fun S h => absurd h List.not_mem_nil⟩⟩⟩⟩⟩⟩⟩⟩⟩⟩⟩⟩⟩⟩⟩⟩⟩⟩⟩⟩⟩⟩⟩⟩⟩⟩⟩⟩⟩⟩⟩⟩⟩⟩⟩⟩⟩⟩⟩⟩⟩⟩⟩⟩⟩⟩⟩⟩⟩⟩
theorem ok9L_law : acok (x, code, 8, (some .boolean), ac9L_law, 12, 0) := fun q hq => by
  obtain ⟨S, hS, hq⟩ := List.mem_flatten.mp hq
  exact okS S hS q hq
/-- the law's own rules: the script, the wrappers -/
noncomputable def lwXR (L : Nat) (xs : Nat → Int32) : KT → KT := fun K pc ls st h bc bs =>
  (∃ (r1 r2 : Nat) (r3 : Int) (r : List Value), (pc, .arraylength, r1, r2, r3) ∈ ac9L_law ∧ st = .ref 1000006 :: r ∧ K (pc + 1) ls (.int (I (L : Int)) :: r) h bc bs) ∨
  (∃ (r1 r2 : Nat) (r3 : Int) (e : Int) (r : List Value), (pc, .iaload, r1, r2, r3) ∈ ac9L_law ∧ st = .int (I e) :: .ref 1000006 :: r ∧ 0 ≤ e ∧ e < (L : Int) ∧ K (pc + 1) ls (.int (I (xs e.toNat).toInt) :: r) h bc bs) ∨
  (pc = 360 ∧ ∃ (sh : List (Nat × Nat)) (i j : Int), GD gE gRL sh h ∧ h.1[201]? = some (1, 1) ∧ r32 i ∧ r32 j ∧ st = [.ref 201, .int (I j), .int (I i), .ref 0] ∧ (ls.all fun q => okv h q.2) = true ∧ 1 ≤ bc ∧ 6 ≤ bs ∧ ∀ rv h', wrQ h (postR h i j) rv h' → K (pc + 3) ls (psh rv []) h' (bc - 1) (bs - 6)) ∨ (pc = 400 ∧ ∃ (sh : List (Nat × Nat)) (i j : Int), GD gE gRL sh h ∧ h.1[201]? = some (1, 1) ∧ r32 i ∧ r32 j ∧ st = [.ref 201, .int (I j), .int (I i), .ref 0] ∧ (ls.all fun q => okv h q.2) = true ∧ 1 ≤ bc ∧ 6 ≤ bs ∧ ∀ rv h', wrQ h (rockR h i j) rv h' → K (pc + 3) ls (psh rv []) h' (bc - 1) (bs - 6)) ∨ (pc = 440 ∧ ∃ (sh : List (Nat × Nat)) (i j : Int), GD gE gRL sh h ∧ h.1[201]? = some (1, 1) ∧ r32 i ∧ r32 j ∧ st = [.ref 201, .int (I j), .int (I i), .ref 0] ∧ (ls.all fun q => okv h q.2) = true ∧ 1 ≤ bc ∧ 6 ≤ bs ∧ ∀ rv h', wrQ h (messR h i j) rv h' → K (pc + 3) ls (psh rv []) h' (bc - 1) (bs - 6)) ∨ (pc = 480 ∧ ∃ (sh : List (Nat × Nat)) (i j : Int), GD gE gRL sh h ∧ h.1[201]? = some (1, 1) ∧ r32 i ∧ r32 j ∧ st = [.ref 201, .int (I j), .int (I i), .ref 0] ∧ (ls.all fun q => okv h q.2) = true ∧ 1 ≤ bc ∧ 6 ≤ bs ∧ ∀ rv h', wrQ h (wayR h i j) rv h' → K (pc + 3) ls (psh rv []) h' (bc - 1) (bs - 6)) ∨ (pc = 1535 ∧ ∃ (sh : List (Nat × Nat)) (i : Int), GD gE gRL sh h ∧ h.1[201]? = some (1, 1) ∧ r32 i ∧ st = [.ref 201, .int (I i), .ref 0] ∧ (ls.all fun q => okv h q.2) = true ∧ 1 ≤ bc ∧ 6 ≤ bs ∧ ∀ rv h', wrQ h (rowR h i) rv h' → K (pc + 3) ls (psh rv []) h' (bc - 1) (bs - 6))
noncomputable def lwQ : QT := fun rv _ => rv = some (.int (I 1))
noncomputable def okL (v : Value) : Bool := match v with
  | .ref a => decide (a < 202) || decide (1000000 ≤ a)
  | _ => true
noncomputable def lok (ls : List (Nat × Value)) : Bool := ls.all fun q => okL q.2
theorem lok_so1 {ls : List (Nat × Value)} {i : Nat} {v : Value} (hl : lok ls = true) (hv : okL v = true) : lok (so1 ls i v) = true := by
  unfold lok so1
  rw [List.all_cons, hv, Bool.true_and]
  exact List.all_eq_true.mpr fun q hq => List.all_eq_true.mp hl q (List.mem_filter.mp hq).1
theorem lok_so2 {ls : List (Nat × Value)} {i : Nat} {v : Value} (hl : lok ls = true) (hv : okL v = true) : lok (so2 ls i v) = true := by
  unfold lok so2
  rw [List.all_cons, hv, Bool.true_and]
  exact List.all_eq_true.mpr fun q hq => List.all_eq_true.mp hl q (List.mem_filter.mp hq).1
theorem okL_okv {v : Value} {h : aH} (hv : okL v = true) (hh : 202 ≤ h.1.length) : okv h v = true := by
  cases v with
  | ref a =>
    have hv2 : (decide (a < 202) || decide (1000000 ≤ a)) = true := hv
    show (decide (a < h.1.length) || decide (1000000 ≤ a)) = true
    simp only [Bool.or_eq_true, decide_eq_true_eq] at hv2 ⊢
    exact hv2.imp (fun z => Nat.lt_of_lt_of_le z hh) id
  | _ => rfl
theorem lok_okv {ls : List (Nat × Value)} {h : aH} (hl : lok ls = true) (hh : 202 ≤ h.1.length) : (ls.all fun q => okv h q.2) = true := List.all_eq_true.mpr fun q hq => okL_okv (List.all_eq_true.mp hl q hq) hh
theorem sub_K {K : KT} {CL : CT} {ret : Option FieldType} {Q : QT} (hK : CLO CL ac9L_law ret Q K) (k : Nat) {S : AC} (hS : lawS[k]? = some S) : CLO CL S ret Q K := fun pc ls st h bc bs ⟨i, r1, r2, r3, hm, hs⟩ => hK pc ls st h bc bs ⟨i, r1, r2, r3, List.mem_flatten.mpr ⟨S, List.mem_of_getElem? hS, hm⟩, hs⟩
section LAWR
variable {K : KT} {Lx : Nat} {xs : Nat → Int32} {sh : List (Nat × Nat)}
theorem x_scr (p k : Nat) {S : AC} (hX : ∀ (pc : Nat) (ls : List (Nat × Value)) (st : List Value) (h : aH) (bc bs : Nat), lwXR Lx xs K pc ls st h bc bs → K pc ls st h bc bs) (hS : lawS[k]? = some S) {pc r1 r2 : Nat} {r3 e : Int} {ls : List (Nat × Value)} {st : List Value} {h : aH} {bc bs : Nat} (hf : fr S pc = some (.iaload, r1, r2, r3)) (hp : pc + 1 = p) (h0 : 0 ≤ e) (h1 : e < (Lx : Int)) (hk : K p ls (.int (I (xs e.toNat).toInt) :: st) h bc bs) : K pc ls (.int (I e) :: .ref 1000006 :: st) h bc bs := by
  subst hp
  exact hX _ _ _ _ _ _ (Or.inr (Or.inl ⟨r1, r2, r3, e, st, List.mem_flatten.mpr ⟨S, List.mem_of_getElem? hS, fr_mem hf⟩, rfl, h0, h1, hk⟩))
theorem x_slen (p k : Nat) {S : AC} (hX : ∀ (pc : Nat) (ls : List (Nat × Value)) (st : List Value) (h : aH) (bc bs : Nat), lwXR Lx xs K pc ls st h bc bs → K pc ls st h bc bs) (hS : lawS[k]? = some S) {pc r1 r2 : Nat} {r3 : Int} {ls : List (Nat × Value)} {st : List Value} {h : aH} {bc bs : Nat} (hf : fr S pc = some (.arraylength, r1, r2, r3)) (hp : pc + 1 = p) (hk : K p ls (.int (I (Lx : Int)) :: st) h bc bs) : K pc ls (.ref 1000006 :: st) h bc bs := by
  subst hp
  exact hX _ _ _ _ _ _ (Or.inl ⟨r1, r2, r3, st, List.mem_flatten.mpr ⟨S, List.mem_of_getElem? hS, fr_mem hf⟩, rfl, hk⟩)
theorem s0_ {b : Int} {h : aH} (hI : INV sh b h) : h.1[0]? = some (110, 17) := shx hI.1 (a := 0) (r := 0) (s := (110, 17)) (by decide +kernel) (by decide +kernel)
theorem s171g_ {h : aH} (hG : GD gE gRL sh h) : h.1[171]? = some (111, 53) := shx hG (a := 171) (r := 54) (s := (111, 53)) (by decide +kernel) (by decide +kernel)
theorem s171_ {b : Int} {h : aH} (hI : INV sh b h) : h.1[171]? = some (111, 53) := shx hI.1 (a := 171) (r := 54) (s := (111, 53)) (by decide +kernel) (by decide +kernel)
theorem s201_ {b : Int} {h : aH} (hI : INV sh b h) : h.1[201]? = some (1, 1) := shx hI.1 (a := 201) (r := 84) (s := (1, 1)) (by decide +kernel) (by decide +kernel)
theorem sl_ {b : Int} {h : aH} (hI : INV sh b h) : 202 ≤ h.1.length := (List.getElem?_eq_some_iff.mp (s201_ hI)).1
theorem wr_inv {b : Int} {h h' : aH} {R : Option Int → Prop} {rv : Option Value} (hI : INV sh b h) (hw : wrQ h R rv h') : (∃ e : Int, rv = some (.int (I e))) ∧ INV sh b h' := by
  rcases hw with ⟨-, rfl, rfl⟩ | ⟨v, -, rfl, rfl⟩
  · exact ⟨⟨_, rfl⟩, hI⟩
  · exact ⟨⟨_, rfl⟩, INV_J hI⟩
theorem wr_cr {h h' : aH} {R : Option Int → Prop} {rv : Option Value} (hC : CR h) (hw : wrQ h R rv h') : CR h' := by
  rcases hw with ⟨-, rfl, rfl⟩ | ⟨v, -, rfl, rfl⟩
  · exact hC
  · exact CR_J hC
set_option maxRecDepth 8000 in
theorem lc1 (hK : CLO (CLd SPt 310) ac9L_law (some .boolean) lwQ K) (hX : ∀ (pc : Nat) (ls : List (Nat × Value)) (st : List Value) (h : aH) (bc bs : Nat), lwXR Lx xs K pc ls st h bc bs → K pc ls st h bc bs) {t b : Int} {h : aH} {ls : List (Nat × Value)} {bc bs : Nat} (ht : 0 ≤ t ∧ t + 5 ≤ (Lx : Int)) (hL : Lx ≤ 2560) (hI : INV sh b h) (hC : CR h) (hb : b ≤ 320000) (l0 : lk ls 0 = some (.ref 1000006)) (l1 : lk ls 1 = some (.ref 0)) (l2 : lk ls 2 = some (.ref 171)) (l3 : lk ls 3 = some (.ref 201)) (l4 : lk ls 4 = some (.int (I t))) (lo : lok ls = true) (hbc : 1 ≤ bc) (hbs : 6 ≤ bs)
    (hE : ∀ (ls' : List (Nat × Value)) (h' : aH) (bc' bs' : Nat), lk ls' 0 = some (.ref 1000006) → lk ls' 1 = some (.ref 0) → lk ls' 2 = some (.ref 171) → lk ls' 3 = some (.ref 201) → lk ls' 4 = some (.int (I t)) → lok ls' = true → INV sh (b + 600) h' → CR h' → bc ≤ bc' + 1 → bs ≤ bs' + 6 → K 1582 ls' [] h' bc' bs') : K 244 ls [] h bc bs := by
  have hK := sub_K hK 1 (S := aS1) rfl
  have hmono := MONO_CLd SPt_mono 310
  refine x_aload_n 245 hK rfl rfl l1 ?_
  refine x_aload_n 246 hK rfl rfl l0 ?_
  refine x_iload 248 hK rfl rfl l4 ?_
  refine x_iconst 249 hK rfl rfl ?_
  refine x_iadd 250 hK rfl rfl ?_
  refine x_scr 251 1 hX rfl rfl rfl (by omega) (by omega) ?_
  refine x_callV 254 hK hmono rfl rfl [.ref 0, .int (I ((xs (t + 1).toNat).toInt))] [] rfl rfl (Nat.le_of_ble_eq_true rfl) (Nat.le_of_ble_eq_true rfl) rfl (s0_ hI) (pr_sign hI hC hb (r_I _)) ?_
  rintro v1 h1 ⟨e1, re1, rfl, hG1, cl1⟩
  refine x_pop 255 hK rfl rfl rfl ?_
  refine x_aload_n 256 hK rfl rfl l2 ?_
  refine x_aload_n 257 hK rfl rfl l0 ?_
  refine x_iload 259 hK rfl rfl l4 ?_
  refine x_iconst 260 hK rfl rfl ?_
  refine x_iadd 261 hK rfl rfl ?_
  refine x_scr 262 1 hX rfl rfl rfl (by omega) (by omega) ?_
  refine x_callV 265 hK hmono rfl rfl [.ref 171, .int (I ((xs (t + 1).toNat).toInt))] [] rfl rfl (Nat.le_of_ble_eq_true rfl) (Nat.le_of_ble_eq_true rfl) rfl (s171g_ hG1) cl1 ?_
  rintro v2 h2 ⟨e2, re2, rfl, ee2, hI2, hC2⟩
  refine x_pop 266 hK rfl rfl rfl ?_
  refine x_goto 1582 hK rfl rfl ?_
  exact hE _ _ _ _ l0 l1 l2 l3 l4 lo (hI2.mono (by omega)) hC2 (by omega) (by omega)
set_option maxRecDepth 8000 in
theorem lc2 (hK : CLO (CLd SPt 310) ac9L_law (some .boolean) lwQ K) (hX : ∀ (pc : Nat) (ls : List (Nat × Value)) (st : List Value) (h : aH) (bc bs : Nat), lwXR Lx xs K pc ls st h bc bs → K pc ls st h bc bs) {t b : Int} {h : aH} {ls : List (Nat × Value)} {bc bs : Nat} (ht : 0 ≤ t ∧ t + 5 ≤ (Lx : Int)) (hL : Lx ≤ 2560) (hI : INV sh b h) (hC : CR h) (hb : b ≤ 320000) (l0 : lk ls 0 = some (.ref 1000006)) (l1 : lk ls 1 = some (.ref 0)) (l2 : lk ls 2 = some (.ref 171)) (l3 : lk ls 3 = some (.ref 201)) (l4 : lk ls 4 = some (.int (I t))) (lo : lok ls = true) (hbc : 1 ≤ bc) (hbs : 6 ≤ bs)
    (hE : ∀ (ls' : List (Nat × Value)) (h' : aH) (bc' bs' : Nat), lk ls' 0 = some (.ref 1000006) → lk ls' 1 = some (.ref 0) → lk ls' 2 = some (.ref 171) → lk ls' 3 = some (.ref 201) → lk ls' 4 = some (.int (I t)) → lok ls' = true → INV sh (b + 600) h' → CR h' → bc ≤ bc' + 1 → bs ≤ bs' + 6 → K 1582 ls' [] h' bc' bs') : K 269 ls [] h bc bs := by
  have hK := sub_K hK 2 (S := aS2) rfl
  have hmono := MONO_CLd SPt_mono 310
  refine x_aload_n 270 hK rfl rfl l1 ?_
  refine x_aload_n 271 hK rfl rfl l0 ?_
  refine x_iload 273 hK rfl rfl l4 ?_
  refine x_iconst 274 hK rfl rfl ?_
  refine x_iadd 275 hK rfl rfl ?_
  refine x_scr 276 2 hX rfl rfl rfl (by omega) (by omega) ?_
  refine x_callV 279 hK hmono rfl rfl [.ref 0, .int (I ((xs (t + 1).toNat).toInt))] [] rfl rfl (Nat.le_of_ble_eq_true rfl) (Nat.le_of_ble_eq_true rfl) rfl (s0_ hI) (pr_end hI hC hb (r_I _)) ?_
  rintro v1 h1 ⟨e1, re1, rfl, hG1, cl1⟩
  refine x_pop 280 hK rfl rfl rfl ?_
  refine x_aload_n 281 hK rfl rfl l2 ?_
  refine x_aload_n 282 hK rfl rfl l0 ?_
  refine x_iload 284 hK rfl rfl l4 ?_
  refine x_iconst 285 hK rfl rfl ?_
  refine x_iadd 286 hK rfl rfl ?_
  refine x_scr 287 2 hX rfl rfl rfl (by omega) (by omega) ?_
  refine x_callV 290 hK hmono rfl rfl [.ref 171, .int (I ((xs (t + 1).toNat).toInt))] [] rfl rfl (Nat.le_of_ble_eq_true rfl) (Nat.le_of_ble_eq_true rfl) rfl (s171g_ hG1) cl1 ?_
  rintro v2 h2 ⟨e2, re2, rfl, ee2, hI2, hC2⟩
  refine x_pop 291 hK rfl rfl rfl ?_
  refine x_goto 1582 hK rfl rfl ?_
  exact hE _ _ _ _ l0 l1 l2 l3 l4 lo (hI2.mono (by omega)) hC2 (by omega) (by omega)
set_option maxRecDepth 8000 in
theorem lc3 (hK : CLO (CLd SPt 310) ac9L_law (some .boolean) lwQ K) (hX : ∀ (pc : Nat) (ls : List (Nat × Value)) (st : List Value) (h : aH) (bc bs : Nat), lwXR Lx xs K pc ls st h bc bs → K pc ls st h bc bs) {t b : Int} {h : aH} {ls : List (Nat × Value)} {bc bs : Nat} (ht : 0 ≤ t ∧ t + 5 ≤ (Lx : Int)) (hL : Lx ≤ 2560) (hI : INV sh b h) (hC : CR h) (hb : b ≤ 320000) (l0 : lk ls 0 = some (.ref 1000006)) (l1 : lk ls 1 = some (.ref 0)) (l2 : lk ls 2 = some (.ref 171)) (l3 : lk ls 3 = some (.ref 201)) (l4 : lk ls 4 = some (.int (I t))) (lo : lok ls = true) (hbc : 1 ≤ bc) (hbs : 6 ≤ bs)
    (hE : ∀ (ls' : List (Nat × Value)) (h' : aH) (bc' bs' : Nat), lk ls' 0 = some (.ref 1000006) → lk ls' 1 = some (.ref 0) → lk ls' 2 = some (.ref 171) → lk ls' 3 = some (.ref 201) → lk ls' 4 = some (.int (I t)) → lok ls' = true → INV sh (b + 600) h' → CR h' → bc ≤ bc' + 1 → bs ≤ bs' + 6 → K 1582 ls' [] h' bc' bs') : K 294 ls [] h bc bs := by
  have hK := sub_K hK 3 (S := aS3) rfl
  have hmono := MONO_CLd SPt_mono 310
  refine x_aload_n 295 hK rfl rfl l1 ?_
  refine x_callV 298 hK hmono rfl rfl [.ref 0] [] rfl rfl (Nat.le_of_ble_eq_true rfl) (Nat.le_of_ble_eq_true rfl) rfl (s0_ hI) (pr_ship hI hC hb ) ?_
  rintro v1 h1 ⟨e1, re1, rfl, hG1, cl1⟩
  refine x_pop 299 hK rfl rfl rfl ?_
  refine x_aload_n 300 hK rfl rfl l2 ?_
  refine x_callV 303 hK hmono rfl rfl [.ref 171] [] rfl rfl (Nat.le_of_ble_eq_true rfl) (Nat.le_of_ble_eq_true rfl) rfl (s171g_ hG1) cl1 ?_
  rintro v2 h2 ⟨e2, re2, rfl, ee2, hI2, hC2⟩
  refine x_pop 304 hK rfl rfl rfl ?_
  refine x_goto 1582 hK rfl rfl ?_
  exact hE _ _ _ _ l0 l1 l2 l3 l4 lo (hI2.mono (by omega)) hC2 (by omega) (by omega)
set_option maxRecDepth 8000 in
theorem lc4 (hK : CLO (CLd SPt 310) ac9L_law (some .boolean) lwQ K) (hX : ∀ (pc : Nat) (ls : List (Nat × Value)) (st : List Value) (h : aH) (bc bs : Nat), lwXR Lx xs K pc ls st h bc bs → K pc ls st h bc bs) {t b : Int} {h : aH} {ls : List (Nat × Value)} {bc bs : Nat} (ht : 0 ≤ t ∧ t + 5 ≤ (Lx : Int)) (hL : Lx ≤ 2560) (hI : INV sh b h) (hC : CR h) (hb : b ≤ 320000) (l0 : lk ls 0 = some (.ref 1000006)) (l1 : lk ls 1 = some (.ref 0)) (l2 : lk ls 2 = some (.ref 171)) (l3 : lk ls 3 = some (.ref 201)) (l4 : lk ls 4 = some (.int (I t))) (lo : lok ls = true) (hbc : 1 ≤ bc) (hbs : 6 ≤ bs)
    (hE : ∀ (ls' : List (Nat × Value)) (h' : aH) (bc' bs' : Nat), lk ls' 0 = some (.ref 1000006) → lk ls' 1 = some (.ref 0) → lk ls' 2 = some (.ref 171) → lk ls' 3 = some (.ref 201) → lk ls' 4 = some (.int (I t)) → lok ls' = true → INV sh (b + 600) h' → CR h' → bc ≤ bc' + 1 → bs ≤ bs' + 6 → K 1582 ls' [] h' bc' bs') : K 307 ls [] h bc bs := by
  have hK := sub_K hK 4 (S := aS4) rfl
  have hmono := MONO_CLd SPt_mono 310
  refine x_aload_n 308 hK rfl rfl l1 ?_
  refine x_callV 311 hK hmono rfl rfl [.ref 0] [] rfl rfl (Nat.le_of_ble_eq_true rfl) (Nat.le_of_ble_eq_true rfl) rfl (s0_ hI) (pr_rocks hI hC hb ) ?_
  rintro v1 h1 ⟨e1, re1, rfl, hG1, cl1⟩
  refine x_pop 312 hK rfl rfl rfl ?_
  refine x_aload_n 313 hK rfl rfl l2 ?_
  refine x_callV 316 hK hmono rfl rfl [.ref 171] [] rfl rfl (Nat.le_of_ble_eq_true rfl) (Nat.le_of_ble_eq_true rfl) rfl (s171g_ hG1) cl1 ?_
  rintro v2 h2 ⟨e2, re2, rfl, ee2, hI2, hC2⟩
  refine x_pop 317 hK rfl rfl rfl ?_
  refine x_goto 1582 hK rfl rfl ?_
  exact hE _ _ _ _ l0 l1 l2 l3 l4 lo (hI2.mono (by omega)) hC2 (by omega) (by omega)
set_option maxRecDepth 8000 in
theorem lc5 (hK : CLO (CLd SPt 310) ac9L_law (some .boolean) lwQ K) (hX : ∀ (pc : Nat) (ls : List (Nat × Value)) (st : List Value) (h : aH) (bc bs : Nat), lwXR Lx xs K pc ls st h bc bs → K pc ls st h bc bs) {t b : Int} {h : aH} {ls : List (Nat × Value)} {bc bs : Nat} (ht : 0 ≤ t ∧ t + 5 ≤ (Lx : Int)) (hL : Lx ≤ 2560) (hI : INV sh b h) (hC : CR h) (hb : b ≤ 320000) (l0 : lk ls 0 = some (.ref 1000006)) (l1 : lk ls 1 = some (.ref 0)) (l2 : lk ls 2 = some (.ref 171)) (l3 : lk ls 3 = some (.ref 201)) (l4 : lk ls 4 = some (.int (I t))) (lo : lok ls = true) (hbc : 1 ≤ bc) (hbs : 6 ≤ bs)
    (hE : ∀ (ls' : List (Nat × Value)) (h' : aH) (bc' bs' : Nat), lk ls' 0 = some (.ref 1000006) → lk ls' 1 = some (.ref 0) → lk ls' 2 = some (.ref 171) → lk ls' 3 = some (.ref 201) → lk ls' 4 = some (.int (I t)) → lok ls' = true → INV sh (b + 600) h' → CR h' → bc ≤ bc' + 1 → bs ≤ bs' + 6 → K 1582 ls' [] h' bc' bs') : K 320 ls [] h bc bs := by
  have hK := sub_K hK 5 (S := aS5) rfl
  have hmono := MONO_CLd SPt_mono 310
  refine x_aload_n 321 hK rfl rfl l1 ?_
  refine x_callV 324 hK hmono rfl rfl [.ref 0] [] rfl rfl (Nat.le_of_ble_eq_true rfl) (Nat.le_of_ble_eq_true rfl) rfl (s0_ hI) (pr_messes hI hC hb ) ?_
  rintro v1 h1 ⟨e1, re1, rfl, hG1, cl1⟩
  refine x_pop 325 hK rfl rfl rfl ?_
  refine x_aload_n 326 hK rfl rfl l2 ?_
  refine x_callV 329 hK hmono rfl rfl [.ref 171] [] rfl rfl (Nat.le_of_ble_eq_true rfl) (Nat.le_of_ble_eq_true rfl) rfl (s171g_ hG1) cl1 ?_
  rintro v2 h2 ⟨e2, re2, rfl, ee2, hI2, hC2⟩
  refine x_pop 330 hK rfl rfl rfl ?_
  refine x_goto 1582 hK rfl rfl ?_
  exact hE _ _ _ _ l0 l1 l2 l3 l4 lo (hI2.mono (by omega)) hC2 (by omega) (by omega)
set_option maxRecDepth 8000 in
theorem lc6 (hK : CLO (CLd SPt 310) ac9L_law (some .boolean) lwQ K) (hX : ∀ (pc : Nat) (ls : List (Nat × Value)) (st : List Value) (h : aH) (bc bs : Nat), lwXR Lx xs K pc ls st h bc bs → K pc ls st h bc bs) {t b : Int} {h : aH} {ls : List (Nat × Value)} {bc bs : Nat} (ht : 0 ≤ t ∧ t + 5 ≤ (Lx : Int)) (hL : Lx ≤ 2560) (hI : INV sh b h) (hC : CR h) (hb : b ≤ 320000) (l0 : lk ls 0 = some (.ref 1000006)) (l1 : lk ls 1 = some (.ref 0)) (l2 : lk ls 2 = some (.ref 171)) (l3 : lk ls 3 = some (.ref 201)) (l4 : lk ls 4 = some (.int (I t))) (lo : lok ls = true) (hbc : 1 ≤ bc) (hbs : 6 ≤ bs)
    (hE : ∀ (ls' : List (Nat × Value)) (h' : aH) (bc' bs' : Nat), lk ls' 0 = some (.ref 1000006) → lk ls' 1 = some (.ref 0) → lk ls' 2 = some (.ref 171) → lk ls' 3 = some (.ref 201) → lk ls' 4 = some (.int (I t)) → lok ls' = true → INV sh (b + 600) h' → CR h' → bc ≤ bc' + 1 → bs ≤ bs' + 6 → K 1582 ls' [] h' bc' bs') : K 333 ls [] h bc bs := by
  have hK := sub_K hK 6 (S := aS6) rfl
  have hmono := MONO_CLd SPt_mono 310
  refine x_aload_n 334 hK rfl rfl l1 ?_
  refine x_callV 337 hK hmono rfl rfl [.ref 0] [] rfl rfl (Nat.le_of_ble_eq_true rfl) (Nat.le_of_ble_eq_true rfl) rfl (s0_ hI) (pr_rule hI hC hb ) ?_
  rintro v1 h1 ⟨e1, re1, rfl, hG1, cl1⟩
  refine x_pop 338 hK rfl rfl rfl ?_
  refine x_aload_n 339 hK rfl rfl l2 ?_
  refine x_callV 342 hK hmono rfl rfl [.ref 171] [] rfl rfl (Nat.le_of_ble_eq_true rfl) (Nat.le_of_ble_eq_true rfl) rfl (s171g_ hG1) cl1 ?_
  rintro v2 h2 ⟨e2, re2, rfl, ee2, hI2, hC2⟩
  refine x_pop 343 hK rfl rfl rfl ?_
  refine x_goto 1582 hK rfl rfl ?_
  exact hE _ _ _ _ l0 l1 l2 l3 l4 lo (hI2.mono (by omega)) hC2 (by omega) (by omega)
set_option maxRecDepth 8000 in
theorem lc7 (hK : CLO (CLd SPt 310) ac9L_law (some .boolean) lwQ K) (hX : ∀ (pc : Nat) (ls : List (Nat × Value)) (st : List Value) (h : aH) (bc bs : Nat), lwXR Lx xs K pc ls st h bc bs → K pc ls st h bc bs) {t b : Int} {h : aH} {ls : List (Nat × Value)} {bc bs : Nat} (ht : 0 ≤ t ∧ t + 5 ≤ (Lx : Int)) (hL : Lx ≤ 2560) (hI : INV sh b h) (hC : CR h) (hb : b ≤ 320000) (l0 : lk ls 0 = some (.ref 1000006)) (l1 : lk ls 1 = some (.ref 0)) (l2 : lk ls 2 = some (.ref 171)) (l3 : lk ls 3 = some (.ref 201)) (l4 : lk ls 4 = some (.int (I t))) (lo : lok ls = true) (hbc : 1 ≤ bc) (hbs : 6 ≤ bs)
    (hE : ∀ (ls' : List (Nat × Value)) (h' : aH) (bc' bs' : Nat), lk ls' 0 = some (.ref 1000006) → lk ls' 1 = some (.ref 0) → lk ls' 2 = some (.ref 171) → lk ls' 3 = some (.ref 201) → lk ls' 4 = some (.int (I t)) → lok ls' = true → INV sh (b + 600) h' → CR h' → bc ≤ bc' + 1 → bs ≤ bs' + 6 → K 1582 ls' [] h' bc' bs') : K 346 ls [] h bc bs := by
  have hK := sub_K hK 7 (S := aS7) rfl
  have hmono := MONO_CLd SPt_mono 310
  refine x_aload_n 347 hK rfl rfl l1 ?_
  refine x_aload_n 348 hK rfl rfl l0 ?_
  refine x_iload 350 hK rfl rfl l4 ?_
  refine x_iconst 351 hK rfl rfl ?_
  refine x_iadd 352 hK rfl rfl ?_
  refine x_scr 353 7 hX rfl rfl rfl (by omega) (by omega) ?_
  refine x_aload_n 354 hK rfl rfl l0 ?_
  refine x_iload 356 hK rfl rfl l4 ?_
  refine x_iconst 357 hK rfl rfl ?_
  refine x_iadd 358 hK rfl rfl ?_
  refine x_scr 359 7 hX rfl rfl rfl (by omega) (by omega) ?_
  refine x_aload_n 360 hK rfl rfl l3 ?_
  refine hX _ _ _ _ _ _ (Or.inr (Or.inr (Or.inl ⟨rfl, sh, _, _, hI.1, s201_ hI, r_I _, r_I _, rfl, lok_okv lo (sl_ hI), hbc, hbs, fun v1 h1 hw => ?_⟩)))
  obtain ⟨⟨e1, rfl⟩, hI1⟩ := wr_inv hI hw
  have hC1 := wr_cr hC hw
  refine x_istore 365 hK rfl rfl _ rfl ?_
  have m20 := lk1_n (i := 5) (v := .int (I e1)) l0 (by decide) (Or.inl rfl)
  have m21 := lk1_n (i := 5) (v := .int (I e1)) l1 (by decide) (Or.inl rfl)
  have m22 := lk1_n (i := 5) (v := .int (I e1)) l2 (by decide) (Or.inl rfl)
  have m23 := lk1_n (i := 5) (v := .int (I e1)) l3 (by decide) (Or.inl rfl)
  have m24 := lk1_n (i := 5) (v := .int (I e1)) l4 (by decide) (Or.inl rfl)
  have lo2 := lok_so1 (i := 5) (v := .int (I e1)) lo rfl
  refine x_aload_n 366 hK rfl rfl m22 ?_
  refine x_aload_n 367 hK rfl rfl m20 ?_
  refine x_iload 369 hK rfl rfl m24 ?_
  refine x_iconst 370 hK rfl rfl ?_
  refine x_iadd 371 hK rfl rfl ?_
  refine x_scr 372 7 hX rfl rfl rfl (by omega) (by omega) ?_
  refine x_aload_n 373 hK rfl rfl m20 ?_
  refine x_iload 375 hK rfl rfl m24 ?_
  refine x_iconst 376 hK rfl rfl ?_
  refine x_iadd 377 hK rfl rfl ?_
  refine x_scr 378 7 hX rfl rfl rfl (by omega) (by omega) ?_
  refine x_callV 381 hK hmono rfl rfl [.ref 171, .int (I ((xs (t + 1).toNat).toInt)), .int (I ((xs (t + 2).toNat).toInt))] [] rfl rfl (Nat.le_of_ble_eq_true rfl) (Nat.le_of_ble_eq_true rfl) rfl (s171_ hI1) (loX11_post hI1 hb (r_I _) (r_I _)) ?_
  rintro v3 h3 ⟨⟨e3, rfl⟩, hI3, hF3⟩
  have hC3 := CR_F hF3 (by decide +kernel) hC1
  refine x_istore 383 hK rfl rfl _ rfl ?_
  have m40 := lk1_n (i := 6) (v := .int (I e3)) m20 (by decide) (Or.inl rfl)
  have m41 := lk1_n (i := 6) (v := .int (I e3)) m21 (by decide) (Or.inl rfl)
  have m42 := lk1_n (i := 6) (v := .int (I e3)) m22 (by decide) (Or.inl rfl)
  have m43 := lk1_n (i := 6) (v := .int (I e3)) m23 (by decide) (Or.inl rfl)
  have m44 := lk1_n (i := 6) (v := .int (I e3)) m24 (by decide) (Or.inl rfl)
  have lo4 := lok_so1 (i := 6) (v := .int (I e3)) lo2 rfl
  refine x_goto 1582 hK rfl rfl ?_
  exact hE _ _ _ _ m40 m41 m42 m43 m44 lo4 (hI3.mono (by omega)) hC3 (by omega) (by omega)
set_option maxRecDepth 8000 in
theorem lc8 (hK : CLO (CLd SPt 310) ac9L_law (some .boolean) lwQ K) (hX : ∀ (pc : Nat) (ls : List (Nat × Value)) (st : List Value) (h : aH) (bc bs : Nat), lwXR Lx xs K pc ls st h bc bs → K pc ls st h bc bs) {t b : Int} {h : aH} {ls : List (Nat × Value)} {bc bs : Nat} (ht : 0 ≤ t ∧ t + 5 ≤ (Lx : Int)) (hL : Lx ≤ 2560) (hI : INV sh b h) (hC : CR h) (hb : b ≤ 320000) (l0 : lk ls 0 = some (.ref 1000006)) (l1 : lk ls 1 = some (.ref 0)) (l2 : lk ls 2 = some (.ref 171)) (l3 : lk ls 3 = some (.ref 201)) (l4 : lk ls 4 = some (.int (I t))) (lo : lok ls = true) (hbc : 1 ≤ bc) (hbs : 6 ≤ bs)
    (hE : ∀ (ls' : List (Nat × Value)) (h' : aH) (bc' bs' : Nat), lk ls' 0 = some (.ref 1000006) → lk ls' 1 = some (.ref 0) → lk ls' 2 = some (.ref 171) → lk ls' 3 = some (.ref 201) → lk ls' 4 = some (.int (I t)) → lok ls' = true → INV sh (b + 600) h' → CR h' → bc ≤ bc' + 1 → bs ≤ bs' + 6 → K 1582 ls' [] h' bc' bs') : K 386 ls [] h bc bs := by
  have hK := sub_K hK 8 (S := aS8) rfl
  have hmono := MONO_CLd SPt_mono 310
  refine x_aload_n 387 hK rfl rfl l1 ?_
  refine x_aload_n 388 hK rfl rfl l0 ?_
  refine x_iload 390 hK rfl rfl l4 ?_
  refine x_iconst 391 hK rfl rfl ?_
  refine x_iadd 392 hK rfl rfl ?_
  refine x_scr 393 8 hX rfl rfl rfl (by omega) (by omega) ?_
  refine x_aload_n 394 hK rfl rfl l0 ?_
  refine x_iload 396 hK rfl rfl l4 ?_
  refine x_iconst 397 hK rfl rfl ?_
  refine x_iadd 398 hK rfl rfl ?_
  refine x_scr 399 8 hX rfl rfl rfl (by omega) (by omega) ?_
  refine x_aload_n 400 hK rfl rfl l3 ?_
  refine hX _ _ _ _ _ _ (Or.inr (Or.inr (Or.inr (Or.inl ⟨rfl, sh, _, _, hI.1, s201_ hI, r_I _, r_I _, rfl, lok_okv lo (sl_ hI), hbc, hbs, fun v1 h1 hw => ?_⟩))))
  obtain ⟨⟨e1, rfl⟩, hI1⟩ := wr_inv hI hw
  have hC1 := wr_cr hC hw
  refine x_istore 405 hK rfl rfl _ rfl ?_
  have m20 := lk1_n (i := 5) (v := .int (I e1)) l0 (by decide) (Or.inl rfl)
  have m21 := lk1_n (i := 5) (v := .int (I e1)) l1 (by decide) (Or.inl rfl)
  have m22 := lk1_n (i := 5) (v := .int (I e1)) l2 (by decide) (Or.inl rfl)
  have m23 := lk1_n (i := 5) (v := .int (I e1)) l3 (by decide) (Or.inl rfl)
  have m24 := lk1_n (i := 5) (v := .int (I e1)) l4 (by decide) (Or.inl rfl)
  have lo2 := lok_so1 (i := 5) (v := .int (I e1)) lo rfl
  refine x_aload_n 406 hK rfl rfl m22 ?_
  refine x_aload_n 407 hK rfl rfl m20 ?_
  refine x_iload 409 hK rfl rfl m24 ?_
  refine x_iconst 410 hK rfl rfl ?_
  refine x_iadd 411 hK rfl rfl ?_
  refine x_scr 412 8 hX rfl rfl rfl (by omega) (by omega) ?_
  refine x_aload_n 413 hK rfl rfl m20 ?_
  refine x_iload 415 hK rfl rfl m24 ?_
  refine x_iconst 416 hK rfl rfl ?_
  refine x_iadd 417 hK rfl rfl ?_
  refine x_scr 418 8 hX rfl rfl rfl (by omega) (by omega) ?_
  refine x_callV 421 hK hmono rfl rfl [.ref 171, .int (I ((xs (t + 1).toNat).toInt)), .int (I ((xs (t + 2).toNat).toInt))] [] rfl rfl (Nat.le_of_ble_eq_true rfl) (Nat.le_of_ble_eq_true rfl) rfl (s171_ hI1) (loX11_rock hI1 hb (r_I _) (r_I _)) ?_
  rintro v3 h3 ⟨⟨e3, rfl⟩, hI3, hF3⟩
  have hC3 := CR_F hF3 (by decide +kernel) hC1
  refine x_istore 423 hK rfl rfl _ rfl ?_
  have m40 := lk1_n (i := 6) (v := .int (I e3)) m20 (by decide) (Or.inl rfl)
  have m41 := lk1_n (i := 6) (v := .int (I e3)) m21 (by decide) (Or.inl rfl)
  have m42 := lk1_n (i := 6) (v := .int (I e3)) m22 (by decide) (Or.inl rfl)
  have m43 := lk1_n (i := 6) (v := .int (I e3)) m23 (by decide) (Or.inl rfl)
  have m44 := lk1_n (i := 6) (v := .int (I e3)) m24 (by decide) (Or.inl rfl)
  have lo4 := lok_so1 (i := 6) (v := .int (I e3)) lo2 rfl
  refine x_goto 1582 hK rfl rfl ?_
  exact hE _ _ _ _ m40 m41 m42 m43 m44 lo4 (hI3.mono (by omega)) hC3 (by omega) (by omega)
set_option maxRecDepth 8000 in
theorem lc9 (hK : CLO (CLd SPt 310) ac9L_law (some .boolean) lwQ K) (hX : ∀ (pc : Nat) (ls : List (Nat × Value)) (st : List Value) (h : aH) (bc bs : Nat), lwXR Lx xs K pc ls st h bc bs → K pc ls st h bc bs) {t b : Int} {h : aH} {ls : List (Nat × Value)} {bc bs : Nat} (ht : 0 ≤ t ∧ t + 5 ≤ (Lx : Int)) (hL : Lx ≤ 2560) (hI : INV sh b h) (hC : CR h) (hb : b ≤ 320000) (l0 : lk ls 0 = some (.ref 1000006)) (l1 : lk ls 1 = some (.ref 0)) (l2 : lk ls 2 = some (.ref 171)) (l3 : lk ls 3 = some (.ref 201)) (l4 : lk ls 4 = some (.int (I t))) (lo : lok ls = true) (hbc : 1 ≤ bc) (hbs : 6 ≤ bs)
    (hE : ∀ (ls' : List (Nat × Value)) (h' : aH) (bc' bs' : Nat), lk ls' 0 = some (.ref 1000006) → lk ls' 1 = some (.ref 0) → lk ls' 2 = some (.ref 171) → lk ls' 3 = some (.ref 201) → lk ls' 4 = some (.int (I t)) → lok ls' = true → INV sh (b + 600) h' → CR h' → bc ≤ bc' + 1 → bs ≤ bs' + 6 → K 1582 ls' [] h' bc' bs') : K 426 ls [] h bc bs := by
  have hK := sub_K hK 9 (S := aS9) rfl
  have hmono := MONO_CLd SPt_mono 310
  refine x_aload_n 427 hK rfl rfl l1 ?_
  refine x_aload_n 428 hK rfl rfl l0 ?_
  refine x_iload 430 hK rfl rfl l4 ?_
  refine x_iconst 431 hK rfl rfl ?_
  refine x_iadd 432 hK rfl rfl ?_
  refine x_scr 433 9 hX rfl rfl rfl (by omega) (by omega) ?_
  refine x_aload_n 434 hK rfl rfl l0 ?_
  refine x_iload 436 hK rfl rfl l4 ?_
  refine x_iconst 437 hK rfl rfl ?_
  refine x_iadd 438 hK rfl rfl ?_
  refine x_scr 439 9 hX rfl rfl rfl (by omega) (by omega) ?_
  refine x_aload_n 440 hK rfl rfl l3 ?_
  refine hX _ _ _ _ _ _ (Or.inr (Or.inr (Or.inr (Or.inr (Or.inl ⟨rfl, sh, _, _, hI.1, s201_ hI, r_I _, r_I _, rfl, lok_okv lo (sl_ hI), hbc, hbs, fun v1 h1 hw => ?_⟩)))))
  obtain ⟨⟨e1, rfl⟩, hI1⟩ := wr_inv hI hw
  have hC1 := wr_cr hC hw
  refine x_istore 445 hK rfl rfl _ rfl ?_
  have m20 := lk1_n (i := 5) (v := .int (I e1)) l0 (by decide) (Or.inl rfl)
  have m21 := lk1_n (i := 5) (v := .int (I e1)) l1 (by decide) (Or.inl rfl)
  have m22 := lk1_n (i := 5) (v := .int (I e1)) l2 (by decide) (Or.inl rfl)
  have m23 := lk1_n (i := 5) (v := .int (I e1)) l3 (by decide) (Or.inl rfl)
  have m24 := lk1_n (i := 5) (v := .int (I e1)) l4 (by decide) (Or.inl rfl)
  have lo2 := lok_so1 (i := 5) (v := .int (I e1)) lo rfl
  refine x_aload_n 446 hK rfl rfl m22 ?_
  refine x_aload_n 447 hK rfl rfl m20 ?_
  refine x_iload 449 hK rfl rfl m24 ?_
  refine x_iconst 450 hK rfl rfl ?_
  refine x_iadd 451 hK rfl rfl ?_
  refine x_scr 452 9 hX rfl rfl rfl (by omega) (by omega) ?_
  refine x_aload_n 453 hK rfl rfl m20 ?_
  refine x_iload 455 hK rfl rfl m24 ?_
  refine x_iconst 456 hK rfl rfl ?_
  refine x_iadd 457 hK rfl rfl ?_
  refine x_scr 458 9 hX rfl rfl rfl (by omega) (by omega) ?_
  refine x_callV 461 hK hmono rfl rfl [.ref 171, .int (I ((xs (t + 1).toNat).toInt)), .int (I ((xs (t + 2).toNat).toInt))] [] rfl rfl (Nat.le_of_ble_eq_true rfl) (Nat.le_of_ble_eq_true rfl) rfl (s171_ hI1) (loX11_mess hI1 hb (r_I _) (r_I _)) ?_
  rintro v3 h3 ⟨⟨e3, rfl⟩, hI3, hF3⟩
  have hC3 := CR_F hF3 (by decide +kernel) hC1
  refine x_istore 463 hK rfl rfl _ rfl ?_
  have m40 := lk1_n (i := 6) (v := .int (I e3)) m20 (by decide) (Or.inl rfl)
  have m41 := lk1_n (i := 6) (v := .int (I e3)) m21 (by decide) (Or.inl rfl)
  have m42 := lk1_n (i := 6) (v := .int (I e3)) m22 (by decide) (Or.inl rfl)
  have m43 := lk1_n (i := 6) (v := .int (I e3)) m23 (by decide) (Or.inl rfl)
  have m44 := lk1_n (i := 6) (v := .int (I e3)) m24 (by decide) (Or.inl rfl)
  have lo4 := lok_so1 (i := 6) (v := .int (I e3)) lo2 rfl
  refine x_goto 1582 hK rfl rfl ?_
  exact hE _ _ _ _ m40 m41 m42 m43 m44 lo4 (hI3.mono (by omega)) hC3 (by omega) (by omega)
set_option maxRecDepth 8000 in
theorem lc10 (hK : CLO (CLd SPt 310) ac9L_law (some .boolean) lwQ K) (hX : ∀ (pc : Nat) (ls : List (Nat × Value)) (st : List Value) (h : aH) (bc bs : Nat), lwXR Lx xs K pc ls st h bc bs → K pc ls st h bc bs) {t b : Int} {h : aH} {ls : List (Nat × Value)} {bc bs : Nat} (ht : 0 ≤ t ∧ t + 5 ≤ (Lx : Int)) (hL : Lx ≤ 2560) (hI : INV sh b h) (hC : CR h) (hb : b ≤ 320000) (l0 : lk ls 0 = some (.ref 1000006)) (l1 : lk ls 1 = some (.ref 0)) (l2 : lk ls 2 = some (.ref 171)) (l3 : lk ls 3 = some (.ref 201)) (l4 : lk ls 4 = some (.int (I t))) (lo : lok ls = true) (hbc : 1 ≤ bc) (hbs : 6 ≤ bs)
    (hE : ∀ (ls' : List (Nat × Value)) (h' : aH) (bc' bs' : Nat), lk ls' 0 = some (.ref 1000006) → lk ls' 1 = some (.ref 0) → lk ls' 2 = some (.ref 171) → lk ls' 3 = some (.ref 201) → lk ls' 4 = some (.int (I t)) → lok ls' = true → INV sh (b + 600) h' → CR h' → bc ≤ bc' + 1 → bs ≤ bs' + 6 → K 1582 ls' [] h' bc' bs') : K 466 ls [] h bc bs := by
  have hK := sub_K hK 10 (S := aS10) rfl
  have hmono := MONO_CLd SPt_mono 310
  refine x_aload_n 467 hK rfl rfl l1 ?_
  refine x_aload_n 468 hK rfl rfl l0 ?_
  refine x_iload 470 hK rfl rfl l4 ?_
  refine x_iconst 471 hK rfl rfl ?_
  refine x_iadd 472 hK rfl rfl ?_
  refine x_scr 473 10 hX rfl rfl rfl (by omega) (by omega) ?_
  refine x_aload_n 474 hK rfl rfl l0 ?_
  refine x_iload 476 hK rfl rfl l4 ?_
  refine x_iconst 477 hK rfl rfl ?_
  refine x_iadd 478 hK rfl rfl ?_
  refine x_scr 479 10 hX rfl rfl rfl (by omega) (by omega) ?_
  refine x_aload_n 480 hK rfl rfl l3 ?_
  refine hX _ _ _ _ _ _ (Or.inr (Or.inr (Or.inr (Or.inr (Or.inr (Or.inl ⟨rfl, sh, _, _, hI.1, s201_ hI, r_I _, r_I _, rfl, lok_okv lo (sl_ hI), hbc, hbs, fun v1 h1 hw => ?_⟩))))))
  obtain ⟨⟨e1, rfl⟩, hI1⟩ := wr_inv hI hw
  have hC1 := wr_cr hC hw
  refine x_istore 485 hK rfl rfl _ rfl ?_
  have m20 := lk1_n (i := 5) (v := .int (I e1)) l0 (by decide) (Or.inl rfl)
  have m21 := lk1_n (i := 5) (v := .int (I e1)) l1 (by decide) (Or.inl rfl)
  have m22 := lk1_n (i := 5) (v := .int (I e1)) l2 (by decide) (Or.inl rfl)
  have m23 := lk1_n (i := 5) (v := .int (I e1)) l3 (by decide) (Or.inl rfl)
  have m24 := lk1_n (i := 5) (v := .int (I e1)) l4 (by decide) (Or.inl rfl)
  have lo2 := lok_so1 (i := 5) (v := .int (I e1)) lo rfl
  refine x_aload_n 486 hK rfl rfl m22 ?_
  refine x_aload_n 487 hK rfl rfl m20 ?_
  refine x_iload 489 hK rfl rfl m24 ?_
  refine x_iconst 490 hK rfl rfl ?_
  refine x_iadd 491 hK rfl rfl ?_
  refine x_scr 492 10 hX rfl rfl rfl (by omega) (by omega) ?_
  refine x_aload_n 493 hK rfl rfl m20 ?_
  refine x_iload 495 hK rfl rfl m24 ?_
  refine x_iconst 496 hK rfl rfl ?_
  refine x_iadd 497 hK rfl rfl ?_
  refine x_scr 498 10 hX rfl rfl rfl (by omega) (by omega) ?_
  refine x_callV 501 hK hmono rfl rfl [.ref 171, .int (I ((xs (t + 1).toNat).toInt)), .int (I ((xs (t + 2).toNat).toInt))] [] rfl rfl (Nat.le_of_ble_eq_true rfl) (Nat.le_of_ble_eq_true rfl) rfl (s171_ hI1) (loX11_way hI1 hb (r_I _) (r_I _)) ?_
  rintro v3 h3 ⟨⟨e3, rfl⟩, hI3, hF3⟩
  have hC3 := CR_F hF3 (by decide +kernel) hC1
  refine x_istore 503 hK rfl rfl _ rfl ?_
  have m40 := lk1_n (i := 6) (v := .int (I e3)) m20 (by decide) (Or.inl rfl)
  have m41 := lk1_n (i := 6) (v := .int (I e3)) m21 (by decide) (Or.inl rfl)
  have m42 := lk1_n (i := 6) (v := .int (I e3)) m22 (by decide) (Or.inl rfl)
  have m43 := lk1_n (i := 6) (v := .int (I e3)) m23 (by decide) (Or.inl rfl)
  have m44 := lk1_n (i := 6) (v := .int (I e3)) m24 (by decide) (Or.inl rfl)
  have lo4 := lok_so1 (i := 6) (v := .int (I e3)) lo2 rfl
  refine x_goto 1582 hK rfl rfl ?_
  exact hE _ _ _ _ m40 m41 m42 m43 m44 lo4 (hI3.mono (by omega)) hC3 (by omega) (by omega)
set_option maxRecDepth 8000 in
theorem lc11 (hK : CLO (CLd SPt 310) ac9L_law (some .boolean) lwQ K) (hX : ∀ (pc : Nat) (ls : List (Nat × Value)) (st : List Value) (h : aH) (bc bs : Nat), lwXR Lx xs K pc ls st h bc bs → K pc ls st h bc bs) {t b : Int} {h : aH} {ls : List (Nat × Value)} {bc bs : Nat} (ht : 0 ≤ t ∧ t + 5 ≤ (Lx : Int)) (hL : Lx ≤ 2560) (hI : INV sh b h) (hC : CR h) (hb : b ≤ 320000) (l0 : lk ls 0 = some (.ref 1000006)) (l1 : lk ls 1 = some (.ref 0)) (l2 : lk ls 2 = some (.ref 171)) (l3 : lk ls 3 = some (.ref 201)) (l4 : lk ls 4 = some (.int (I t))) (lo : lok ls = true) (hbc : 1 ≤ bc) (hbs : 6 ≤ bs)
    (hE : ∀ (ls' : List (Nat × Value)) (h' : aH) (bc' bs' : Nat), lk ls' 0 = some (.ref 1000006) → lk ls' 1 = some (.ref 0) → lk ls' 2 = some (.ref 171) → lk ls' 3 = some (.ref 201) → lk ls' 4 = some (.int (I t)) → lok ls' = true → INV sh (b + 600) h' → CR h' → bc ≤ bc' + 1 → bs ≤ bs' + 6 → K 1582 ls' [] h' bc' bs') : K 506 ls [] h bc bs := by
  have hK := sub_K hK 11 (S := aS11) rfl
  have hmono := MONO_CLd SPt_mono 310
  refine x_aload_n 507 hK rfl rfl l1 ?_
  refine x_aload_n 508 hK rfl rfl l0 ?_
  refine x_iload 510 hK rfl rfl l4 ?_
  refine x_iconst 511 hK rfl rfl ?_
  refine x_iadd 512 hK rfl rfl ?_
  refine x_scr 513 11 hX rfl rfl rfl (by omega) (by omega) ?_
  refine x_aload_n 514 hK rfl rfl l0 ?_
  refine x_iload 516 hK rfl rfl l4 ?_
  refine x_iconst 517 hK rfl rfl ?_
  refine x_iadd 518 hK rfl rfl ?_
  refine x_scr 519 11 hX rfl rfl rfl (by omega) (by omega) ?_
  refine x_aload_n 520 hK rfl rfl l0 ?_
  refine x_iload 522 hK rfl rfl l4 ?_
  refine x_iconst 523 hK rfl rfl ?_
  refine x_iadd 524 hK rfl rfl ?_
  refine x_scr 525 11 hX rfl rfl rfl (by omega) (by omega) ?_
  refine x_aload_n 526 hK rfl rfl l0 ?_
  refine x_iload 528 hK rfl rfl l4 ?_
  refine x_iconst 529 hK rfl rfl ?_
  refine x_iadd 530 hK rfl rfl ?_
  refine x_scr 531 11 hX rfl rfl rfl (by omega) (by omega) ?_
  refine x_callV 534 hK hmono rfl rfl [.ref 0, .int (I ((xs (t + 1).toNat).toInt)), .int (I ((xs (t + 2).toNat).toInt)), .int (I ((xs (t + 3).toNat).toInt)), .int (I ((xs (t + 4).toNat).toInt))] [] rfl rfl (Nat.le_of_ble_eq_true rfl) (Nat.le_of_ble_eq_true rfl) rfl (s0_ hI) (pr_sheet hI hC hb (r_I _) (r_I _) (r_I _) (r_I _)) ?_
  rintro v1 h1 ⟨e1, re1, rfl, hG1, cl1⟩
  refine x_pop 535 hK rfl rfl rfl ?_
  refine x_aload_n 536 hK rfl rfl l2 ?_
  refine x_aload_n 537 hK rfl rfl l0 ?_
  refine x_iload 539 hK rfl rfl l4 ?_
  refine x_iconst 540 hK rfl rfl ?_
  refine x_iadd 541 hK rfl rfl ?_
  refine x_scr 542 11 hX rfl rfl rfl (by omega) (by omega) ?_
  refine x_aload_n 543 hK rfl rfl l0 ?_
  refine x_iload 545 hK rfl rfl l4 ?_
  refine x_iconst 546 hK rfl rfl ?_
  refine x_iadd 547 hK rfl rfl ?_
  refine x_scr 548 11 hX rfl rfl rfl (by omega) (by omega) ?_
  refine x_aload_n 549 hK rfl rfl l0 ?_
  refine x_iload 551 hK rfl rfl l4 ?_
  refine x_iconst 552 hK rfl rfl ?_
  refine x_iadd 553 hK rfl rfl ?_
  refine x_scr 554 11 hX rfl rfl rfl (by omega) (by omega) ?_
  refine x_aload_n 555 hK rfl rfl l0 ?_
  refine x_iload 557 hK rfl rfl l4 ?_
  refine x_iconst 558 hK rfl rfl ?_
  refine x_iadd 559 hK rfl rfl ?_
  refine x_scr 560 11 hX rfl rfl rfl (by omega) (by omega) ?_
  refine x_callV 563 hK hmono rfl rfl [.ref 171, .int (I ((xs (t + 1).toNat).toInt)), .int (I ((xs (t + 2).toNat).toInt)), .int (I ((xs (t + 3).toNat).toInt)), .int (I ((xs (t + 4).toNat).toInt))] [] rfl rfl (Nat.le_of_ble_eq_true rfl) (Nat.le_of_ble_eq_true rfl) rfl (s171g_ hG1) cl1 ?_
  rintro v2 h2 ⟨e2, re2, rfl, ee2, hI2, hC2⟩
  refine x_pop 564 hK rfl rfl rfl ?_
  refine x_goto 1582 hK rfl rfl ?_
  exact hE _ _ _ _ l0 l1 l2 l3 l4 lo (hI2.mono (by omega)) hC2 (by omega) (by omega)
set_option maxRecDepth 8000 in
theorem lc12 (hK : CLO (CLd SPt 310) ac9L_law (some .boolean) lwQ K) (hX : ∀ (pc : Nat) (ls : List (Nat × Value)) (st : List Value) (h : aH) (bc bs : Nat), lwXR Lx xs K pc ls st h bc bs → K pc ls st h bc bs) {t b : Int} {h : aH} {ls : List (Nat × Value)} {bc bs : Nat} (ht : 0 ≤ t ∧ t + 5 ≤ (Lx : Int)) (hL : Lx ≤ 2560) (hI : INV sh b h) (hC : CR h) (hb : b ≤ 320000) (l0 : lk ls 0 = some (.ref 1000006)) (l1 : lk ls 1 = some (.ref 0)) (l2 : lk ls 2 = some (.ref 171)) (l3 : lk ls 3 = some (.ref 201)) (l4 : lk ls 4 = some (.int (I t))) (lo : lok ls = true) (hbc : 1 ≤ bc) (hbs : 6 ≤ bs)
    (hE : ∀ (ls' : List (Nat × Value)) (h' : aH) (bc' bs' : Nat), lk ls' 0 = some (.ref 1000006) → lk ls' 1 = some (.ref 0) → lk ls' 2 = some (.ref 171) → lk ls' 3 = some (.ref 201) → lk ls' 4 = some (.int (I t)) → lok ls' = true → INV sh (b + 600) h' → CR h' → bc ≤ bc' + 1 → bs ≤ bs' + 6 → K 1582 ls' [] h' bc' bs') : K 567 ls [] h bc bs := by
  have hK := sub_K hK 12 (S := aS12) rfl
  have hmono := MONO_CLd SPt_mono 310
  refine x_aload_n 568 hK rfl rfl l1 ?_
  refine x_callV 571 hK hmono rfl rfl [.ref 0] [] rfl rfl (Nat.le_of_ble_eq_true rfl) (Nat.le_of_ble_eq_true rfl) rfl (s0_ hI) (pr_delay hI hC hb ) ?_
  rintro v1 h1 ⟨e1, re1, rfl, hG1, cl1⟩
  refine x_pop 572 hK rfl rfl rfl ?_
  refine x_aload_n 573 hK rfl rfl l2 ?_
  refine x_callV 576 hK hmono rfl rfl [.ref 171] [] rfl rfl (Nat.le_of_ble_eq_true rfl) (Nat.le_of_ble_eq_true rfl) rfl (s171g_ hG1) cl1 ?_
  rintro v2 h2 ⟨e2, re2, rfl, ee2, hI2, hC2⟩
  refine x_pop 577 hK rfl rfl rfl ?_
  refine x_goto 1582 hK rfl rfl ?_
  exact hE _ _ _ _ l0 l1 l2 l3 l4 lo (hI2.mono (by omega)) hC2 (by omega) (by omega)
set_option maxRecDepth 8000 in
theorem lc13 (hK : CLO (CLd SPt 310) ac9L_law (some .boolean) lwQ K) (hX : ∀ (pc : Nat) (ls : List (Nat × Value)) (st : List Value) (h : aH) (bc bs : Nat), lwXR Lx xs K pc ls st h bc bs → K pc ls st h bc bs) {t b : Int} {h : aH} {ls : List (Nat × Value)} {bc bs : Nat} (ht : 0 ≤ t ∧ t + 5 ≤ (Lx : Int)) (hL : Lx ≤ 2560) (hI : INV sh b h) (hC : CR h) (hb : b ≤ 320000) (l0 : lk ls 0 = some (.ref 1000006)) (l1 : lk ls 1 = some (.ref 0)) (l2 : lk ls 2 = some (.ref 171)) (l3 : lk ls 3 = some (.ref 201)) (l4 : lk ls 4 = some (.int (I t))) (lo : lok ls = true) (hbc : 1 ≤ bc) (hbs : 6 ≤ bs)
    (hE : ∀ (ls' : List (Nat × Value)) (h' : aH) (bc' bs' : Nat), lk ls' 0 = some (.ref 1000006) → lk ls' 1 = some (.ref 0) → lk ls' 2 = some (.ref 171) → lk ls' 3 = some (.ref 201) → lk ls' 4 = some (.int (I t)) → lok ls' = true → INV sh (b + 600) h' → CR h' → bc ≤ bc' + 1 → bs ≤ bs' + 6 → K 1582 ls' [] h' bc' bs') : K 580 ls [] h bc bs := by
  have hK := sub_K hK 13 (S := aS13) rfl
  have hmono := MONO_CLd SPt_mono 310
  refine x_aload_n 581 hK rfl rfl l1 ?_
  refine x_aload_n 582 hK rfl rfl l0 ?_
  refine x_iload 584 hK rfl rfl l4 ?_
  refine x_iconst 585 hK rfl rfl ?_
  refine x_iadd 586 hK rfl rfl ?_
  refine x_scr 587 13 hX rfl rfl rfl (by omega) (by omega) ?_
  refine x_callV 590 hK hmono rfl rfl [.ref 0, .int (I ((xs (t + 1).toNat).toInt))] [] rfl rfl (Nat.le_of_ble_eq_true rfl) (Nat.le_of_ble_eq_true rfl) rfl (s0_ hI) (pr_order hI hC hb (r_I _)) ?_
  rintro v1 h1 ⟨e1, re1, rfl, hG1, cl1⟩
  refine x_pop 591 hK rfl rfl rfl ?_
  refine x_aload_n 592 hK rfl rfl l2 ?_
  refine x_aload_n 593 hK rfl rfl l0 ?_
  refine x_iload 595 hK rfl rfl l4 ?_
  refine x_iconst 596 hK rfl rfl ?_
  refine x_iadd 597 hK rfl rfl ?_
  refine x_scr 598 13 hX rfl rfl rfl (by omega) (by omega) ?_
  refine x_callV 601 hK hmono rfl rfl [.ref 171, .int (I ((xs (t + 1).toNat).toInt))] [] rfl rfl (Nat.le_of_ble_eq_true rfl) (Nat.le_of_ble_eq_true rfl) rfl (s171g_ hG1) cl1 ?_
  rintro v2 h2 ⟨e2, re2, rfl, ee2, hI2, hC2⟩
  refine x_pop 602 hK rfl rfl rfl ?_
  refine x_goto 1582 hK rfl rfl ?_
  exact hE _ _ _ _ l0 l1 l2 l3 l4 lo (hI2.mono (by omega)) hC2 (by omega) (by omega)
set_option maxRecDepth 8000 in
theorem lc14 (hK : CLO (CLd SPt 310) ac9L_law (some .boolean) lwQ K) (hX : ∀ (pc : Nat) (ls : List (Nat × Value)) (st : List Value) (h : aH) (bc bs : Nat), lwXR Lx xs K pc ls st h bc bs → K pc ls st h bc bs) {t b : Int} {h : aH} {ls : List (Nat × Value)} {bc bs : Nat} (ht : 0 ≤ t ∧ t + 5 ≤ (Lx : Int)) (hL : Lx ≤ 2560) (hI : INV sh b h) (hC : CR h) (hb : b ≤ 320000) (l0 : lk ls 0 = some (.ref 1000006)) (l1 : lk ls 1 = some (.ref 0)) (l2 : lk ls 2 = some (.ref 171)) (l3 : lk ls 3 = some (.ref 201)) (l4 : lk ls 4 = some (.int (I t))) (lo : lok ls = true) (hbc : 1 ≤ bc) (hbs : 6 ≤ bs)
    (hE : ∀ (ls' : List (Nat × Value)) (h' : aH) (bc' bs' : Nat), lk ls' 0 = some (.ref 1000006) → lk ls' 1 = some (.ref 0) → lk ls' 2 = some (.ref 171) → lk ls' 3 = some (.ref 201) → lk ls' 4 = some (.int (I t)) → lok ls' = true → INV sh (b + 600) h' → CR h' → bc ≤ bc' + 1 → bs ≤ bs' + 6 → K 1582 ls' [] h' bc' bs') : K 605 ls [] h bc bs := by
  have hK := sub_K hK 14 (S := aS14) rfl
  have hmono := MONO_CLd SPt_mono 310
  refine x_aload_n 606 hK rfl rfl l1 ?_
  refine x_aload_n 607 hK rfl rfl l0 ?_
  refine x_iload 609 hK rfl rfl l4 ?_
  refine x_iconst 610 hK rfl rfl ?_
  refine x_iadd 611 hK rfl rfl ?_
  refine x_scr 612 14 hX rfl rfl rfl (by omega) (by omega) ?_
  refine x_aload_n 613 hK rfl rfl l0 ?_
  refine x_iload 615 hK rfl rfl l4 ?_
  refine x_iconst 616 hK rfl rfl ?_
  refine x_iadd 617 hK rfl rfl ?_
  refine x_scr 618 14 hX rfl rfl rfl (by omega) (by omega) ?_
  refine x_aload_n 619 hK rfl rfl l0 ?_
  refine x_iload 621 hK rfl rfl l4 ?_
  refine x_iconst 622 hK rfl rfl ?_
  refine x_iadd 623 hK rfl rfl ?_
  refine x_scr 624 14 hX rfl rfl rfl (by omega) (by omega) ?_
  refine x_callV 627 hK hmono rfl rfl [.ref 0, .int (I ((xs (t + 1).toNat).toInt)), .int (I ((xs (t + 2).toNat).toInt)), .int (I ((xs (t + 3).toNat).toInt))] [] rfl rfl (Nat.le_of_ble_eq_true rfl) (Nat.le_of_ble_eq_true rfl) rfl (s0_ hI) (pr_pass hI hC hb (r_I _) (r_I _) (r_I _)) ?_
  rintro v1 h1 ⟨e1, re1, rfl, hG1, cl1⟩
  refine x_pop 628 hK rfl rfl rfl ?_
  refine x_aload_n 629 hK rfl rfl l2 ?_
  refine x_aload_n 630 hK rfl rfl l0 ?_
  refine x_iload 632 hK rfl rfl l4 ?_
  refine x_iconst 633 hK rfl rfl ?_
  refine x_iadd 634 hK rfl rfl ?_
  refine x_scr 635 14 hX rfl rfl rfl (by omega) (by omega) ?_
  refine x_aload_n 636 hK rfl rfl l0 ?_
  refine x_iload 638 hK rfl rfl l4 ?_
  refine x_iconst 639 hK rfl rfl ?_
  refine x_iadd 640 hK rfl rfl ?_
  refine x_scr 641 14 hX rfl rfl rfl (by omega) (by omega) ?_
  refine x_aload_n 642 hK rfl rfl l0 ?_
  refine x_iload 644 hK rfl rfl l4 ?_
  refine x_iconst 645 hK rfl rfl ?_
  refine x_iadd 646 hK rfl rfl ?_
  refine x_scr 647 14 hX rfl rfl rfl (by omega) (by omega) ?_
  refine x_callV 650 hK hmono rfl rfl [.ref 171, .int (I ((xs (t + 1).toNat).toInt)), .int (I ((xs (t + 2).toNat).toInt)), .int (I ((xs (t + 3).toNat).toInt))] [] rfl rfl (Nat.le_of_ble_eq_true rfl) (Nat.le_of_ble_eq_true rfl) rfl (s171g_ hG1) cl1 ?_
  rintro v2 h2 ⟨e2, re2, rfl, ee2, hI2, hC2⟩
  refine x_pop 651 hK rfl rfl rfl ?_
  refine x_goto 1582 hK rfl rfl ?_
  exact hE _ _ _ _ l0 l1 l2 l3 l4 lo (hI2.mono (by omega)) hC2 (by omega) (by omega)
set_option maxRecDepth 8000 in
theorem lc15 (hK : CLO (CLd SPt 310) ac9L_law (some .boolean) lwQ K) (hX : ∀ (pc : Nat) (ls : List (Nat × Value)) (st : List Value) (h : aH) (bc bs : Nat), lwXR Lx xs K pc ls st h bc bs → K pc ls st h bc bs) {t b : Int} {h : aH} {ls : List (Nat × Value)} {bc bs : Nat} (ht : 0 ≤ t ∧ t + 5 ≤ (Lx : Int)) (hL : Lx ≤ 2560) (hI : INV sh b h) (hC : CR h) (hb : b ≤ 320000) (l0 : lk ls 0 = some (.ref 1000006)) (l1 : lk ls 1 = some (.ref 0)) (l2 : lk ls 2 = some (.ref 171)) (l3 : lk ls 3 = some (.ref 201)) (l4 : lk ls 4 = some (.int (I t))) (lo : lok ls = true) (hbc : 1 ≤ bc) (hbs : 6 ≤ bs)
    (hE : ∀ (ls' : List (Nat × Value)) (h' : aH) (bc' bs' : Nat), lk ls' 0 = some (.ref 1000006) → lk ls' 1 = some (.ref 0) → lk ls' 2 = some (.ref 171) → lk ls' 3 = some (.ref 201) → lk ls' 4 = some (.int (I t)) → lok ls' = true → INV sh (b + 600) h' → CR h' → bc ≤ bc' + 1 → bs ≤ bs' + 6 → K 1582 ls' [] h' bc' bs') : K 654 ls [] h bc bs := by
  have hK := sub_K hK 15 (S := aS15) rfl
  have hmono := MONO_CLd SPt_mono 310
  refine x_aload_n 655 hK rfl rfl l1 ?_
  refine x_aload_n 656 hK rfl rfl l0 ?_
  refine x_iload 658 hK rfl rfl l4 ?_
  refine x_iconst 659 hK rfl rfl ?_
  refine x_iadd 660 hK rfl rfl ?_
  refine x_scr 661 15 hX rfl rfl rfl (by omega) (by omega) ?_
  refine x_aload_n 662 hK rfl rfl l0 ?_
  refine x_iload 664 hK rfl rfl l4 ?_
  refine x_iconst 665 hK rfl rfl ?_
  refine x_iadd 666 hK rfl rfl ?_
  refine x_scr 667 15 hX rfl rfl rfl (by omega) (by omega) ?_
  refine x_callV 670 hK hmono rfl rfl [.ref 0, .int (I ((xs (t + 1).toNat).toInt)), .int (I ((xs (t + 2).toNat).toInt))] [] rfl rfl (Nat.le_of_ble_eq_true rfl) (Nat.le_of_ble_eq_true rfl) rfl (s0_ hI) (pr_cook hI hC hb (r_I _) (r_I _)) ?_
  rintro v1 h1 ⟨e1, re1, rfl, hG1, cl1⟩
  refine x_pop 671 hK rfl rfl rfl ?_
  refine x_aload_n 672 hK rfl rfl l2 ?_
  refine x_aload_n 673 hK rfl rfl l0 ?_
  refine x_iload 675 hK rfl rfl l4 ?_
  refine x_iconst 676 hK rfl rfl ?_
  refine x_iadd 677 hK rfl rfl ?_
  refine x_scr 678 15 hX rfl rfl rfl (by omega) (by omega) ?_
  refine x_aload_n 679 hK rfl rfl l0 ?_
  refine x_iload 681 hK rfl rfl l4 ?_
  refine x_iconst 682 hK rfl rfl ?_
  refine x_iadd 683 hK rfl rfl ?_
  refine x_scr 684 15 hX rfl rfl rfl (by omega) (by omega) ?_
  refine x_callV 687 hK hmono rfl rfl [.ref 171, .int (I ((xs (t + 1).toNat).toInt)), .int (I ((xs (t + 2).toNat).toInt))] [] rfl rfl (Nat.le_of_ble_eq_true rfl) (Nat.le_of_ble_eq_true rfl) rfl (s171g_ hG1) cl1 ?_
  rintro v2 h2 ⟨e2, re2, rfl, ee2, hI2, hC2⟩
  refine x_pop 688 hK rfl rfl rfl ?_
  refine x_goto 1582 hK rfl rfl ?_
  exact hE _ _ _ _ l0 l1 l2 l3 l4 lo (hI2.mono (by omega)) hC2 (by omega) (by omega)
set_option maxRecDepth 8000 in
theorem lc16 (hK : CLO (CLd SPt 310) ac9L_law (some .boolean) lwQ K) (hX : ∀ (pc : Nat) (ls : List (Nat × Value)) (st : List Value) (h : aH) (bc bs : Nat), lwXR Lx xs K pc ls st h bc bs → K pc ls st h bc bs) {t b : Int} {h : aH} {ls : List (Nat × Value)} {bc bs : Nat} (ht : 0 ≤ t ∧ t + 5 ≤ (Lx : Int)) (hL : Lx ≤ 2560) (hI : INV sh b h) (hC : CR h) (hb : b ≤ 320000) (l0 : lk ls 0 = some (.ref 1000006)) (l1 : lk ls 1 = some (.ref 0)) (l2 : lk ls 2 = some (.ref 171)) (l3 : lk ls 3 = some (.ref 201)) (l4 : lk ls 4 = some (.int (I t))) (lo : lok ls = true) (hbc : 1 ≤ bc) (hbs : 6 ≤ bs)
    (hE : ∀ (ls' : List (Nat × Value)) (h' : aH) (bc' bs' : Nat), lk ls' 0 = some (.ref 1000006) → lk ls' 1 = some (.ref 0) → lk ls' 2 = some (.ref 171) → lk ls' 3 = some (.ref 201) → lk ls' 4 = some (.int (I t)) → lok ls' = true → INV sh (b + 600) h' → CR h' → bc ≤ bc' + 1 → bs ≤ bs' + 6 → K 1582 ls' [] h' bc' bs') : K 691 ls [] h bc bs := by
  have hK := sub_K hK 16 (S := aS16) rfl
  have hmono := MONO_CLd SPt_mono 310
  refine x_aload_n 692 hK rfl rfl l1 ?_
  refine x_aload_n 693 hK rfl rfl l0 ?_
  refine x_iload 695 hK rfl rfl l4 ?_
  refine x_iconst 696 hK rfl rfl ?_
  refine x_iadd 697 hK rfl rfl ?_
  refine x_scr 698 16 hX rfl rfl rfl (by omega) (by omega) ?_
  refine x_callV 701 hK hmono rfl rfl [.ref 0, .int (I ((xs (t + 1).toNat).toInt))] [] rfl rfl (Nat.le_of_ble_eq_true rfl) (Nat.le_of_ble_eq_true rfl) rfl (s0_ hI) (pr_steps hI hC hb (r_I _)) ?_
  rintro v1 h1 ⟨e1, re1, rfl, hG1, cl1⟩
  refine x_pop 702 hK rfl rfl rfl ?_
  refine x_aload_n 703 hK rfl rfl l2 ?_
  refine x_aload_n 704 hK rfl rfl l0 ?_
  refine x_iload 706 hK rfl rfl l4 ?_
  refine x_iconst 707 hK rfl rfl ?_
  refine x_iadd 708 hK rfl rfl ?_
  refine x_scr 709 16 hX rfl rfl rfl (by omega) (by omega) ?_
  refine x_callV 712 hK hmono rfl rfl [.ref 171, .int (I ((xs (t + 1).toNat).toInt))] [] rfl rfl (Nat.le_of_ble_eq_true rfl) (Nat.le_of_ble_eq_true rfl) rfl (s171g_ hG1) cl1 ?_
  rintro v2 h2 ⟨e2, re2, rfl, ee2, hI2, hC2⟩
  refine x_pop 713 hK rfl rfl rfl ?_
  refine x_goto 1582 hK rfl rfl ?_
  exact hE _ _ _ _ l0 l1 l2 l3 l4 lo (hI2.mono (by omega)) hC2 (by omega) (by omega)
set_option maxRecDepth 8000 in
theorem lc17 (hK : CLO (CLd SPt 310) ac9L_law (some .boolean) lwQ K) (hX : ∀ (pc : Nat) (ls : List (Nat × Value)) (st : List Value) (h : aH) (bc bs : Nat), lwXR Lx xs K pc ls st h bc bs → K pc ls st h bc bs) {t b : Int} {h : aH} {ls : List (Nat × Value)} {bc bs : Nat} (ht : 0 ≤ t ∧ t + 5 ≤ (Lx : Int)) (hL : Lx ≤ 2560) (hI : INV sh b h) (hC : CR h) (hb : b ≤ 320000) (l0 : lk ls 0 = some (.ref 1000006)) (l1 : lk ls 1 = some (.ref 0)) (l2 : lk ls 2 = some (.ref 171)) (l3 : lk ls 3 = some (.ref 201)) (l4 : lk ls 4 = some (.int (I t))) (lo : lok ls = true) (hbc : 1 ≤ bc) (hbs : 6 ≤ bs)
    (hE : ∀ (ls' : List (Nat × Value)) (h' : aH) (bc' bs' : Nat), lk ls' 0 = some (.ref 1000006) → lk ls' 1 = some (.ref 0) → lk ls' 2 = some (.ref 171) → lk ls' 3 = some (.ref 201) → lk ls' 4 = some (.int (I t)) → lok ls' = true → INV sh (b + 600) h' → CR h' → bc ≤ bc' + 1 → bs ≤ bs' + 6 → K 1582 ls' [] h' bc' bs') : K 716 ls [] h bc bs := by
  have hK := sub_K hK 17 (S := aS17) rfl
  have hmono := MONO_CLd SPt_mono 310
  refine x_aload_n 717 hK rfl rfl l1 ?_
  refine x_callV 720 hK hmono rfl rfl [.ref 0] [] rfl rfl (Nat.le_of_ble_eq_true rfl) (Nat.le_of_ble_eq_true rfl) rfl (s0_ hI) (pr_voyage hI hC hb ) ?_
  rintro v1 h1 ⟨e1, re1, rfl, hG1, cl1⟩
  refine x_pop 721 hK rfl rfl rfl ?_
  refine x_aload_n 722 hK rfl rfl l2 ?_
  refine x_callV 725 hK hmono rfl rfl [.ref 171] [] rfl rfl (Nat.le_of_ble_eq_true rfl) (Nat.le_of_ble_eq_true rfl) rfl (s171g_ hG1) cl1 ?_
  rintro v2 h2 ⟨e2, re2, rfl, ee2, hI2, hC2⟩
  refine x_pop 726 hK rfl rfl rfl ?_
  refine x_goto 1582 hK rfl rfl ?_
  exact hE _ _ _ _ l0 l1 l2 l3 l4 lo (hI2.mono (by omega)) hC2 (by omega) (by omega)
set_option maxRecDepth 8000 in
theorem lc18 (hK : CLO (CLd SPt 310) ac9L_law (some .boolean) lwQ K) (hX : ∀ (pc : Nat) (ls : List (Nat × Value)) (st : List Value) (h : aH) (bc bs : Nat), lwXR Lx xs K pc ls st h bc bs → K pc ls st h bc bs) {t b : Int} {h : aH} {ls : List (Nat × Value)} {bc bs : Nat} (ht : 0 ≤ t ∧ t + 5 ≤ (Lx : Int)) (hL : Lx ≤ 2560) (hI : INV sh b h) (hC : CR h) (hb : b ≤ 320000) (l0 : lk ls 0 = some (.ref 1000006)) (l1 : lk ls 1 = some (.ref 0)) (l2 : lk ls 2 = some (.ref 171)) (l3 : lk ls 3 = some (.ref 201)) (l4 : lk ls 4 = some (.int (I t))) (lo : lok ls = true) (hbc : 1 ≤ bc) (hbs : 6 ≤ bs)
    (hE : ∀ (ls' : List (Nat × Value)) (h' : aH) (bc' bs' : Nat), lk ls' 0 = some (.ref 1000006) → lk ls' 1 = some (.ref 0) → lk ls' 2 = some (.ref 171) → lk ls' 3 = some (.ref 201) → lk ls' 4 = some (.int (I t)) → lok ls' = true → INV sh (b + 600) h' → CR h' → bc ≤ bc' + 1 → bs ≤ bs' + 6 → K 1582 ls' [] h' bc' bs') : K 729 ls [] h bc bs := by
  have hK := sub_K hK 18 (S := aS18) rfl
  have hmono := MONO_CLd SPt_mono 310
  refine x_aload_n 730 hK rfl rfl l1 ?_
  refine x_callV 733 hK hmono rfl rfl [.ref 0] [] rfl rfl (Nat.le_of_ble_eq_true rfl) (Nat.le_of_ble_eq_true rfl) rfl (s0_ hI) (pr_undo hI hC hb ) ?_
  rintro v1 h1 ⟨e1, re1, rfl, hG1, cl1⟩
  refine x_pop 734 hK rfl rfl rfl ?_
  refine x_aload_n 735 hK rfl rfl l2 ?_
  refine x_callV 738 hK hmono rfl rfl [.ref 171] [] rfl rfl (Nat.le_of_ble_eq_true rfl) (Nat.le_of_ble_eq_true rfl) rfl (s171g_ hG1) cl1 ?_
  rintro v2 h2 ⟨e2, re2, rfl, ee2, hI2, hC2⟩
  refine x_pop 739 hK rfl rfl rfl ?_
  refine x_goto 1582 hK rfl rfl ?_
  exact hE _ _ _ _ l0 l1 l2 l3 l4 lo (hI2.mono (by omega)) hC2 (by omega) (by omega)
set_option maxRecDepth 8000 in
theorem lc19 (hK : CLO (CLd SPt 310) ac9L_law (some .boolean) lwQ K) (hX : ∀ (pc : Nat) (ls : List (Nat × Value)) (st : List Value) (h : aH) (bc bs : Nat), lwXR Lx xs K pc ls st h bc bs → K pc ls st h bc bs) {t b : Int} {h : aH} {ls : List (Nat × Value)} {bc bs : Nat} (ht : 0 ≤ t ∧ t + 5 ≤ (Lx : Int)) (hL : Lx ≤ 2560) (hI : INV sh b h) (hC : CR h) (hb : b ≤ 320000) (l0 : lk ls 0 = some (.ref 1000006)) (l1 : lk ls 1 = some (.ref 0)) (l2 : lk ls 2 = some (.ref 171)) (l3 : lk ls 3 = some (.ref 201)) (l4 : lk ls 4 = some (.int (I t))) (lo : lok ls = true) (hbc : 1 ≤ bc) (hbs : 6 ≤ bs)
    (hE : ∀ (ls' : List (Nat × Value)) (h' : aH) (bc' bs' : Nat), lk ls' 0 = some (.ref 1000006) → lk ls' 1 = some (.ref 0) → lk ls' 2 = some (.ref 171) → lk ls' 3 = some (.ref 201) → lk ls' 4 = some (.int (I t)) → lok ls' = true → INV sh (b + 600) h' → CR h' → bc ≤ bc' + 1 → bs ≤ bs' + 6 → K 1582 ls' [] h' bc' bs') : K 742 ls [] h bc bs := by
  have hK := sub_K hK 19 (S := aS19) rfl
  have hmono := MONO_CLd SPt_mono 310
  refine x_aload_n 743 hK rfl rfl l1 ?_
  refine x_aload_n 744 hK rfl rfl l0 ?_
  refine x_iload 746 hK rfl rfl l4 ?_
  refine x_iconst 747 hK rfl rfl ?_
  refine x_iadd 748 hK rfl rfl ?_
  refine x_scr 749 19 hX rfl rfl rfl (by omega) (by omega) ?_
  refine x_callV 752 hK hmono rfl rfl [.ref 0, .int (I ((xs (t + 1).toNat).toInt))] [] rfl rfl (Nat.le_of_ble_eq_true rfl) (Nat.le_of_ble_eq_true rfl) rfl (s0_ hI) (pr_lane hI hC hb (r_I _)) ?_
  rintro v1 h1 ⟨e1, re1, rfl, hG1, cl1⟩
  refine x_pop 753 hK rfl rfl rfl ?_
  refine x_aload_n 754 hK rfl rfl l2 ?_
  refine x_aload_n 755 hK rfl rfl l0 ?_
  refine x_iload 757 hK rfl rfl l4 ?_
  refine x_iconst 758 hK rfl rfl ?_
  refine x_iadd 759 hK rfl rfl ?_
  refine x_scr 760 19 hX rfl rfl rfl (by omega) (by omega) ?_
  refine x_callV 763 hK hmono rfl rfl [.ref 171, .int (I ((xs (t + 1).toNat).toInt))] [] rfl rfl (Nat.le_of_ble_eq_true rfl) (Nat.le_of_ble_eq_true rfl) rfl (s171g_ hG1) cl1 ?_
  rintro v2 h2 ⟨e2, re2, rfl, ee2, hI2, hC2⟩
  refine x_pop 764 hK rfl rfl rfl ?_
  refine x_goto 1582 hK rfl rfl ?_
  exact hE _ _ _ _ l0 l1 l2 l3 l4 lo (hI2.mono (by omega)) hC2 (by omega) (by omega)
set_option maxRecDepth 8000 in
theorem lc20 (hK : CLO (CLd SPt 310) ac9L_law (some .boolean) lwQ K) (hX : ∀ (pc : Nat) (ls : List (Nat × Value)) (st : List Value) (h : aH) (bc bs : Nat), lwXR Lx xs K pc ls st h bc bs → K pc ls st h bc bs) {t b : Int} {h : aH} {ls : List (Nat × Value)} {bc bs : Nat} (ht : 0 ≤ t ∧ t + 5 ≤ (Lx : Int)) (hL : Lx ≤ 2560) (hI : INV sh b h) (hC : CR h) (hb : b ≤ 320000) (l0 : lk ls 0 = some (.ref 1000006)) (l1 : lk ls 1 = some (.ref 0)) (l2 : lk ls 2 = some (.ref 171)) (l3 : lk ls 3 = some (.ref 201)) (l4 : lk ls 4 = some (.int (I t))) (lo : lok ls = true) (hbc : 1 ≤ bc) (hbs : 6 ≤ bs)
    (hE : ∀ (ls' : List (Nat × Value)) (h' : aH) (bc' bs' : Nat), lk ls' 0 = some (.ref 1000006) → lk ls' 1 = some (.ref 0) → lk ls' 2 = some (.ref 171) → lk ls' 3 = some (.ref 201) → lk ls' 4 = some (.int (I t)) → lok ls' = true → INV sh (b + 600) h' → CR h' → bc ≤ bc' + 1 → bs ≤ bs' + 6 → K 1582 ls' [] h' bc' bs') : K 767 ls [] h bc bs := by
  have hK := sub_K hK 20 (S := aS20) rfl
  have hmono := MONO_CLd SPt_mono 310
  refine x_aload_n 768 hK rfl rfl l1 ?_
  refine x_callV 771 hK hmono rfl rfl [.ref 0] [] rfl rfl (Nat.le_of_ble_eq_true rfl) (Nat.le_of_ble_eq_true rfl) rfl (s0_ hI) (pr_strikes hI hC hb ) ?_
  rintro v1 h1 ⟨e1, re1, rfl, hG1, cl1⟩
  refine x_pop 772 hK rfl rfl rfl ?_
  refine x_aload_n 773 hK rfl rfl l2 ?_
  refine x_callV 776 hK hmono rfl rfl [.ref 171] [] rfl rfl (Nat.le_of_ble_eq_true rfl) (Nat.le_of_ble_eq_true rfl) rfl (s171g_ hG1) cl1 ?_
  rintro v2 h2 ⟨e2, re2, rfl, ee2, hI2, hC2⟩
  refine x_pop 777 hK rfl rfl rfl ?_
  refine x_goto 1582 hK rfl rfl ?_
  exact hE _ _ _ _ l0 l1 l2 l3 l4 lo (hI2.mono (by omega)) hC2 (by omega) (by omega)
set_option maxRecDepth 8000 in
theorem lc21 (hK : CLO (CLd SPt 310) ac9L_law (some .boolean) lwQ K) (hX : ∀ (pc : Nat) (ls : List (Nat × Value)) (st : List Value) (h : aH) (bc bs : Nat), lwXR Lx xs K pc ls st h bc bs → K pc ls st h bc bs) {t b : Int} {h : aH} {ls : List (Nat × Value)} {bc bs : Nat} (ht : 0 ≤ t ∧ t + 5 ≤ (Lx : Int)) (hL : Lx ≤ 2560) (hI : INV sh b h) (hC : CR h) (hb : b ≤ 320000) (l0 : lk ls 0 = some (.ref 1000006)) (l1 : lk ls 1 = some (.ref 0)) (l2 : lk ls 2 = some (.ref 171)) (l3 : lk ls 3 = some (.ref 201)) (l4 : lk ls 4 = some (.int (I t))) (lo : lok ls = true) (hbc : 1 ≤ bc) (hbs : 6 ≤ bs)
    (hE : ∀ (ls' : List (Nat × Value)) (h' : aH) (bc' bs' : Nat), lk ls' 0 = some (.ref 1000006) → lk ls' 1 = some (.ref 0) → lk ls' 2 = some (.ref 171) → lk ls' 3 = some (.ref 201) → lk ls' 4 = some (.int (I t)) → lok ls' = true → INV sh (b + 600) h' → CR h' → bc ≤ bc' + 1 → bs ≤ bs' + 6 → K 1582 ls' [] h' bc' bs') : K 780 ls [] h bc bs := by
  have hK := sub_K hK 21 (S := aS21) rfl
  have hmono := MONO_CLd SPt_mono 310
  refine x_aload_n 781 hK rfl rfl l1 ?_
  refine x_callV 784 hK hmono rfl rfl [.ref 0] [] rfl rfl (Nat.le_of_ble_eq_true rfl) (Nat.le_of_ble_eq_true rfl) rfl (s0_ hI) (pr_clears hI hC hb ) ?_
  rintro v1 h1 ⟨e1, re1, rfl, hG1, cl1⟩
  refine x_pop 785 hK rfl rfl rfl ?_
  refine x_aload_n 786 hK rfl rfl l2 ?_
  refine x_callV 789 hK hmono rfl rfl [.ref 171] [] rfl rfl (Nat.le_of_ble_eq_true rfl) (Nat.le_of_ble_eq_true rfl) rfl (s171g_ hG1) cl1 ?_
  rintro v2 h2 ⟨e2, re2, rfl, ee2, hI2, hC2⟩
  refine x_pop 790 hK rfl rfl rfl ?_
  refine x_goto 1582 hK rfl rfl ?_
  exact hE _ _ _ _ l0 l1 l2 l3 l4 lo (hI2.mono (by omega)) hC2 (by omega) (by omega)
set_option maxRecDepth 8000 in
theorem lc22 (hK : CLO (CLd SPt 310) ac9L_law (some .boolean) lwQ K) (hX : ∀ (pc : Nat) (ls : List (Nat × Value)) (st : List Value) (h : aH) (bc bs : Nat), lwXR Lx xs K pc ls st h bc bs → K pc ls st h bc bs) {t b : Int} {h : aH} {ls : List (Nat × Value)} {bc bs : Nat} (ht : 0 ≤ t ∧ t + 5 ≤ (Lx : Int)) (hL : Lx ≤ 2560) (hI : INV sh b h) (hC : CR h) (hb : b ≤ 320000) (l0 : lk ls 0 = some (.ref 1000006)) (l1 : lk ls 1 = some (.ref 0)) (l2 : lk ls 2 = some (.ref 171)) (l3 : lk ls 3 = some (.ref 201)) (l4 : lk ls 4 = some (.int (I t))) (lo : lok ls = true) (hbc : 1 ≤ bc) (hbs : 6 ≤ bs)
    (hE : ∀ (ls' : List (Nat × Value)) (h' : aH) (bc' bs' : Nat), lk ls' 0 = some (.ref 1000006) → lk ls' 1 = some (.ref 0) → lk ls' 2 = some (.ref 171) → lk ls' 3 = some (.ref 201) → lk ls' 4 = some (.int (I t)) → lok ls' = true → INV sh (b + 600) h' → CR h' → bc ≤ bc' + 1 → bs ≤ bs' + 6 → K 1582 ls' [] h' bc' bs') : K 793 ls [] h bc bs := by
  have hK := sub_K hK 22 (S := aS22) rfl
  have hmono := MONO_CLd SPt_mono 310
  refine x_aload_n 794 hK rfl rfl l1 ?_
  refine x_aload_n 795 hK rfl rfl l0 ?_
  refine x_iload 797 hK rfl rfl l4 ?_
  refine x_iconst 798 hK rfl rfl ?_
  refine x_iadd 799 hK rfl rfl ?_
  refine x_scr 800 22 hX rfl rfl rfl (by omega) (by omega) ?_
  refine x_callV 803 hK hmono rfl rfl [.ref 0, .int (I ((xs (t + 1).toNat).toInt))] [] rfl rfl (Nat.le_of_ble_eq_true rfl) (Nat.le_of_ble_eq_true rfl) rfl (s0_ hI) (pr_plan hI hC hb (r_I _)) ?_
  rintro v1 h1 ⟨e1, re1, rfl, hG1, cl1⟩
  refine x_pop 804 hK rfl rfl rfl ?_
  refine x_aload_n 805 hK rfl rfl l2 ?_
  refine x_aload_n 806 hK rfl rfl l0 ?_
  refine x_iload 808 hK rfl rfl l4 ?_
  refine x_iconst 809 hK rfl rfl ?_
  refine x_iadd 810 hK rfl rfl ?_
  refine x_scr 811 22 hX rfl rfl rfl (by omega) (by omega) ?_
  refine x_callV 814 hK hmono rfl rfl [.ref 171, .int (I ((xs (t + 1).toNat).toInt))] [] rfl rfl (Nat.le_of_ble_eq_true rfl) (Nat.le_of_ble_eq_true rfl) rfl (s171g_ hG1) cl1 ?_
  rintro v2 h2 ⟨e2, re2, rfl, ee2, hI2, hC2⟩
  refine x_pop 815 hK rfl rfl rfl ?_
  refine x_goto 1582 hK rfl rfl ?_
  exact hE _ _ _ _ l0 l1 l2 l3 l4 lo (hI2.mono (by omega)) hC2 (by omega) (by omega)
set_option maxRecDepth 8000 in
theorem lc23 (hK : CLO (CLd SPt 310) ac9L_law (some .boolean) lwQ K) (hX : ∀ (pc : Nat) (ls : List (Nat × Value)) (st : List Value) (h : aH) (bc bs : Nat), lwXR Lx xs K pc ls st h bc bs → K pc ls st h bc bs) {t b : Int} {h : aH} {ls : List (Nat × Value)} {bc bs : Nat} (ht : 0 ≤ t ∧ t + 5 ≤ (Lx : Int)) (hL : Lx ≤ 2560) (hI : INV sh b h) (hC : CR h) (hb : b ≤ 320000) (l0 : lk ls 0 = some (.ref 1000006)) (l1 : lk ls 1 = some (.ref 0)) (l2 : lk ls 2 = some (.ref 171)) (l3 : lk ls 3 = some (.ref 201)) (l4 : lk ls 4 = some (.int (I t))) (lo : lok ls = true) (hbc : 1 ≤ bc) (hbs : 6 ≤ bs)
    (hE : ∀ (ls' : List (Nat × Value)) (h' : aH) (bc' bs' : Nat), lk ls' 0 = some (.ref 1000006) → lk ls' 1 = some (.ref 0) → lk ls' 2 = some (.ref 171) → lk ls' 3 = some (.ref 201) → lk ls' 4 = some (.int (I t)) → lok ls' = true → INV sh (b + 600) h' → CR h' → bc ≤ bc' + 1 → bs ≤ bs' + 6 → K 1582 ls' [] h' bc' bs') : K 818 ls [] h bc bs := by
  have hK := sub_K hK 23 (S := aS23) rfl
  have hmono := MONO_CLd SPt_mono 310
  refine x_aload_n 819 hK rfl rfl l1 ?_
  refine x_aload_n 820 hK rfl rfl l0 ?_
  refine x_iload 822 hK rfl rfl l4 ?_
  refine x_iconst 823 hK rfl rfl ?_
  refine x_iadd 824 hK rfl rfl ?_
  refine x_scr 825 23 hX rfl rfl rfl (by omega) (by omega) ?_
  refine x_callV 828 hK hmono rfl rfl [.ref 0, .int (I ((xs (t + 1).toNat).toInt))] [] rfl rfl (Nat.le_of_ble_eq_true rfl) (Nat.le_of_ble_eq_true rfl) rfl (s0_ hI) (pr_latest hI hC hb (r_I _)) ?_
  rintro v1 h1 ⟨e1, re1, rfl, hG1, cl1⟩
  refine x_pop 829 hK rfl rfl rfl ?_
  refine x_aload_n 830 hK rfl rfl l2 ?_
  refine x_aload_n 831 hK rfl rfl l0 ?_
  refine x_iload 833 hK rfl rfl l4 ?_
  refine x_iconst 834 hK rfl rfl ?_
  refine x_iadd 835 hK rfl rfl ?_
  refine x_scr 836 23 hX rfl rfl rfl (by omega) (by omega) ?_
  refine x_callV 839 hK hmono rfl rfl [.ref 171, .int (I ((xs (t + 1).toNat).toInt))] [] rfl rfl (Nat.le_of_ble_eq_true rfl) (Nat.le_of_ble_eq_true rfl) rfl (s171g_ hG1) cl1 ?_
  rintro v2 h2 ⟨e2, re2, rfl, ee2, hI2, hC2⟩
  refine x_pop 840 hK rfl rfl rfl ?_
  refine x_goto 1582 hK rfl rfl ?_
  exact hE _ _ _ _ l0 l1 l2 l3 l4 lo (hI2.mono (by omega)) hC2 (by omega) (by omega)
set_option maxRecDepth 8000 in
theorem lc24 (hK : CLO (CLd SPt 310) ac9L_law (some .boolean) lwQ K) (hX : ∀ (pc : Nat) (ls : List (Nat × Value)) (st : List Value) (h : aH) (bc bs : Nat), lwXR Lx xs K pc ls st h bc bs → K pc ls st h bc bs) {t b : Int} {h : aH} {ls : List (Nat × Value)} {bc bs : Nat} (ht : 0 ≤ t ∧ t + 5 ≤ (Lx : Int)) (hL : Lx ≤ 2560) (hI : INV sh b h) (hC : CR h) (hb : b ≤ 320000) (l0 : lk ls 0 = some (.ref 1000006)) (l1 : lk ls 1 = some (.ref 0)) (l2 : lk ls 2 = some (.ref 171)) (l3 : lk ls 3 = some (.ref 201)) (l4 : lk ls 4 = some (.int (I t))) (lo : lok ls = true) (hbc : 1 ≤ bc) (hbs : 6 ≤ bs)
    (hE : ∀ (ls' : List (Nat × Value)) (h' : aH) (bc' bs' : Nat), lk ls' 0 = some (.ref 1000006) → lk ls' 1 = some (.ref 0) → lk ls' 2 = some (.ref 171) → lk ls' 3 = some (.ref 201) → lk ls' 4 = some (.int (I t)) → lok ls' = true → INV sh (b + 600) h' → CR h' → bc ≤ bc' + 1 → bs ≤ bs' + 6 → K 1582 ls' [] h' bc' bs') : K 843 ls [] h bc bs := by
  have hK := sub_K hK 24 (S := aS24) rfl
  have hmono := MONO_CLd SPt_mono 310
  refine x_aload_n 844 hK rfl rfl l1 ?_
  refine x_aload_n 845 hK rfl rfl l0 ?_
  refine x_iload 847 hK rfl rfl l4 ?_
  refine x_iconst 848 hK rfl rfl ?_
  refine x_iadd 849 hK rfl rfl ?_
  refine x_scr 850 24 hX rfl rfl rfl (by omega) (by omega) ?_
  refine x_callV 853 hK hmono rfl rfl [.ref 0, .int (I ((xs (t + 1).toNat).toInt))] [] rfl rfl (Nat.le_of_ble_eq_true rfl) (Nat.le_of_ble_eq_true rfl) rfl (s0_ hI) (pr_lanes hI hC hb (r_I _)) ?_
  rintro v1 h1 ⟨e1, re1, rfl, hG1, cl1⟩
  refine x_pop 854 hK rfl rfl rfl ?_
  refine x_aload_n 855 hK rfl rfl l2 ?_
  refine x_aload_n 856 hK rfl rfl l0 ?_
  refine x_iload 858 hK rfl rfl l4 ?_
  refine x_iconst 859 hK rfl rfl ?_
  refine x_iadd 860 hK rfl rfl ?_
  refine x_scr 861 24 hX rfl rfl rfl (by omega) (by omega) ?_
  refine x_callV 864 hK hmono rfl rfl [.ref 171, .int (I ((xs (t + 1).toNat).toInt))] [] rfl rfl (Nat.le_of_ble_eq_true rfl) (Nat.le_of_ble_eq_true rfl) rfl (s171g_ hG1) cl1 ?_
  rintro v2 h2 ⟨e2, re2, rfl, ee2, hI2, hC2⟩
  refine x_pop 865 hK rfl rfl rfl ?_
  refine x_goto 1582 hK rfl rfl ?_
  exact hE _ _ _ _ l0 l1 l2 l3 l4 lo (hI2.mono (by omega)) hC2 (by omega) (by omega)
set_option maxRecDepth 8000 in
theorem lc25 (hK : CLO (CLd SPt 310) ac9L_law (some .boolean) lwQ K) (hX : ∀ (pc : Nat) (ls : List (Nat × Value)) (st : List Value) (h : aH) (bc bs : Nat), lwXR Lx xs K pc ls st h bc bs → K pc ls st h bc bs) {t b : Int} {h : aH} {ls : List (Nat × Value)} {bc bs : Nat} (ht : 0 ≤ t ∧ t + 5 ≤ (Lx : Int)) (hL : Lx ≤ 2560) (hI : INV sh b h) (hC : CR h) (hb : b ≤ 320000) (l0 : lk ls 0 = some (.ref 1000006)) (l1 : lk ls 1 = some (.ref 0)) (l2 : lk ls 2 = some (.ref 171)) (l3 : lk ls 3 = some (.ref 201)) (l4 : lk ls 4 = some (.int (I t))) (lo : lok ls = true) (hbc : 1 ≤ bc) (hbs : 6 ≤ bs)
    (hE : ∀ (ls' : List (Nat × Value)) (h' : aH) (bc' bs' : Nat), lk ls' 0 = some (.ref 1000006) → lk ls' 1 = some (.ref 0) → lk ls' 2 = some (.ref 171) → lk ls' 3 = some (.ref 201) → lk ls' 4 = some (.int (I t)) → lok ls' = true → INV sh (b + 600) h' → CR h' → bc ≤ bc' + 1 → bs ≤ bs' + 6 → K 1582 ls' [] h' bc' bs') : K 868 ls [] h bc bs := by
  have hK := sub_K hK 25 (S := aS25) rfl
  have hmono := MONO_CLd SPt_mono 310
  refine x_aload_n 869 hK rfl rfl l1 ?_
  refine x_aload_n 870 hK rfl rfl l0 ?_
  refine x_iload 872 hK rfl rfl l4 ?_
  refine x_iconst 873 hK rfl rfl ?_
  refine x_iadd 874 hK rfl rfl ?_
  refine x_scr 875 25 hX rfl rfl rfl (by omega) (by omega) ?_
  refine x_callV 878 hK hmono rfl rfl [.ref 0, .int (I ((xs (t + 1).toNat).toInt))] [] rfl rfl (Nat.le_of_ble_eq_true rfl) (Nat.le_of_ble_eq_true rfl) rfl (s0_ hI) (pr_safest hI hC hb (r_I _)) ?_
  rintro v1 h1 ⟨e1, re1, rfl, hG1, cl1⟩
  refine x_pop 879 hK rfl rfl rfl ?_
  refine x_aload_n 880 hK rfl rfl l2 ?_
  refine x_aload_n 881 hK rfl rfl l0 ?_
  refine x_iload 883 hK rfl rfl l4 ?_
  refine x_iconst 884 hK rfl rfl ?_
  refine x_iadd 885 hK rfl rfl ?_
  refine x_scr 886 25 hX rfl rfl rfl (by omega) (by omega) ?_
  refine x_callV 889 hK hmono rfl rfl [.ref 171, .int (I ((xs (t + 1).toNat).toInt))] [] rfl rfl (Nat.le_of_ble_eq_true rfl) (Nat.le_of_ble_eq_true rfl) rfl (s171g_ hG1) cl1 ?_
  rintro v2 h2 ⟨e2, re2, rfl, ee2, hI2, hC2⟩
  refine x_pop 890 hK rfl rfl rfl ?_
  refine x_goto 1582 hK rfl rfl ?_
  exact hE _ _ _ _ l0 l1 l2 l3 l4 lo (hI2.mono (by omega)) hC2 (by omega) (by omega)
set_option maxRecDepth 8000 in
theorem lc26 (hK : CLO (CLd SPt 310) ac9L_law (some .boolean) lwQ K) (hX : ∀ (pc : Nat) (ls : List (Nat × Value)) (st : List Value) (h : aH) (bc bs : Nat), lwXR Lx xs K pc ls st h bc bs → K pc ls st h bc bs) {t b : Int} {h : aH} {ls : List (Nat × Value)} {bc bs : Nat} (ht : 0 ≤ t ∧ t + 5 ≤ (Lx : Int)) (hL : Lx ≤ 2560) (hI : INV sh b h) (hC : CR h) (hb : b ≤ 320000) (l0 : lk ls 0 = some (.ref 1000006)) (l1 : lk ls 1 = some (.ref 0)) (l2 : lk ls 2 = some (.ref 171)) (l3 : lk ls 3 = some (.ref 201)) (l4 : lk ls 4 = some (.int (I t))) (lo : lok ls = true) (hbc : 1 ≤ bc) (hbs : 6 ≤ bs)
    (hE : ∀ (ls' : List (Nat × Value)) (h' : aH) (bc' bs' : Nat), lk ls' 0 = some (.ref 1000006) → lk ls' 1 = some (.ref 0) → lk ls' 2 = some (.ref 171) → lk ls' 3 = some (.ref 201) → lk ls' 4 = some (.int (I t)) → lok ls' = true → INV sh (b + 600) h' → CR h' → bc ≤ bc' + 1 → bs ≤ bs' + 6 → K 1582 ls' [] h' bc' bs') : K 893 ls [] h bc bs := by
  have hK := sub_K hK 26 (S := aS26) rfl
  have hmono := MONO_CLd SPt_mono 310
  refine x_aload_n 894 hK rfl rfl l1 ?_
  refine x_aload_n 895 hK rfl rfl l0 ?_
  refine x_iload 897 hK rfl rfl l4 ?_
  refine x_iconst 898 hK rfl rfl ?_
  refine x_iadd 899 hK rfl rfl ?_
  refine x_scr 900 26 hX rfl rfl rfl (by omega) (by omega) ?_
  refine x_callV 903 hK hmono rfl rfl [.ref 0, .int (I ((xs (t + 1).toNat).toInt))] [] rfl rfl (Nat.le_of_ble_eq_true rfl) (Nat.le_of_ble_eq_true rfl) rfl (s0_ hI) (pr_late hI hC hb (r_I _)) ?_
  rintro v1 h1 ⟨e1, re1, rfl, hG1, cl1⟩
  refine x_pop 904 hK rfl rfl rfl ?_
  refine x_aload_n 905 hK rfl rfl l2 ?_
  refine x_aload_n 906 hK rfl rfl l0 ?_
  refine x_iload 908 hK rfl rfl l4 ?_
  refine x_iconst 909 hK rfl rfl ?_
  refine x_iadd 910 hK rfl rfl ?_
  refine x_scr 911 26 hX rfl rfl rfl (by omega) (by omega) ?_
  refine x_callV 914 hK hmono rfl rfl [.ref 171, .int (I ((xs (t + 1).toNat).toInt))] [] rfl rfl (Nat.le_of_ble_eq_true rfl) (Nat.le_of_ble_eq_true rfl) rfl (s171g_ hG1) cl1 ?_
  rintro v2 h2 ⟨e2, re2, rfl, ee2, hI2, hC2⟩
  refine x_pop 915 hK rfl rfl rfl ?_
  refine x_goto 1582 hK rfl rfl ?_
  exact hE _ _ _ _ l0 l1 l2 l3 l4 lo (hI2.mono (by omega)) hC2 (by omega) (by omega)
set_option maxRecDepth 8000 in
theorem lc27 (hK : CLO (CLd SPt 310) ac9L_law (some .boolean) lwQ K) (hX : ∀ (pc : Nat) (ls : List (Nat × Value)) (st : List Value) (h : aH) (bc bs : Nat), lwXR Lx xs K pc ls st h bc bs → K pc ls st h bc bs) {t b : Int} {h : aH} {ls : List (Nat × Value)} {bc bs : Nat} (ht : 0 ≤ t ∧ t + 5 ≤ (Lx : Int)) (hL : Lx ≤ 2560) (hI : INV sh b h) (hC : CR h) (hb : b ≤ 320000) (l0 : lk ls 0 = some (.ref 1000006)) (l1 : lk ls 1 = some (.ref 0)) (l2 : lk ls 2 = some (.ref 171)) (l3 : lk ls 3 = some (.ref 201)) (l4 : lk ls 4 = some (.int (I t))) (lo : lok ls = true) (hbc : 1 ≤ bc) (hbs : 6 ≤ bs)
    (hE : ∀ (ls' : List (Nat × Value)) (h' : aH) (bc' bs' : Nat), lk ls' 0 = some (.ref 1000006) → lk ls' 1 = some (.ref 0) → lk ls' 2 = some (.ref 171) → lk ls' 3 = some (.ref 201) → lk ls' 4 = some (.int (I t)) → lok ls' = true → INV sh (b + 600) h' → CR h' → bc ≤ bc' + 1 → bs ≤ bs' + 6 → K 1582 ls' [] h' bc' bs') : K 918 ls [] h bc bs := by
  have hK := sub_K hK 27 (S := aS27) rfl
  have hmono := MONO_CLd SPt_mono 310
  refine x_aload_n 919 hK rfl rfl l1 ?_
  refine x_aload_n 920 hK rfl rfl l0 ?_
  refine x_iload 922 hK rfl rfl l4 ?_
  refine x_iconst 923 hK rfl rfl ?_
  refine x_iadd 924 hK rfl rfl ?_
  refine x_scr 925 27 hX rfl rfl rfl (by omega) (by omega) ?_
  refine x_callV 928 hK hmono rfl rfl [.ref 0, .int (I ((xs (t + 1).toNat).toInt))] [] rfl rfl (Nat.le_of_ble_eq_true rfl) (Nat.le_of_ble_eq_true rfl) rfl (s0_ hI) (pr_comes hI hC hb (r_I _)) ?_
  rintro v1 h1 ⟨e1, re1, rfl, hG1, cl1⟩
  refine x_pop 929 hK rfl rfl rfl ?_
  refine x_aload_n 930 hK rfl rfl l2 ?_
  refine x_aload_n 931 hK rfl rfl l0 ?_
  refine x_iload 933 hK rfl rfl l4 ?_
  refine x_iconst 934 hK rfl rfl ?_
  refine x_iadd 935 hK rfl rfl ?_
  refine x_scr 936 27 hX rfl rfl rfl (by omega) (by omega) ?_
  refine x_callV 939 hK hmono rfl rfl [.ref 171, .int (I ((xs (t + 1).toNat).toInt))] [] rfl rfl (Nat.le_of_ble_eq_true rfl) (Nat.le_of_ble_eq_true rfl) rfl (s171g_ hG1) cl1 ?_
  rintro v2 h2 ⟨e2, re2, rfl, ee2, hI2, hC2⟩
  refine x_pop 940 hK rfl rfl rfl ?_
  refine x_goto 1582 hK rfl rfl ?_
  exact hE _ _ _ _ l0 l1 l2 l3 l4 lo (hI2.mono (by omega)) hC2 (by omega) (by omega)
set_option maxRecDepth 8000 in
theorem lc28 (hK : CLO (CLd SPt 310) ac9L_law (some .boolean) lwQ K) (hX : ∀ (pc : Nat) (ls : List (Nat × Value)) (st : List Value) (h : aH) (bc bs : Nat), lwXR Lx xs K pc ls st h bc bs → K pc ls st h bc bs) {t b : Int} {h : aH} {ls : List (Nat × Value)} {bc bs : Nat} (ht : 0 ≤ t ∧ t + 5 ≤ (Lx : Int)) (hL : Lx ≤ 2560) (hI : INV sh b h) (hC : CR h) (hb : b ≤ 320000) (l0 : lk ls 0 = some (.ref 1000006)) (l1 : lk ls 1 = some (.ref 0)) (l2 : lk ls 2 = some (.ref 171)) (l3 : lk ls 3 = some (.ref 201)) (l4 : lk ls 4 = some (.int (I t))) (lo : lok ls = true) (hbc : 1 ≤ bc) (hbs : 6 ≤ bs)
    (hE : ∀ (ls' : List (Nat × Value)) (h' : aH) (bc' bs' : Nat), lk ls' 0 = some (.ref 1000006) → lk ls' 1 = some (.ref 0) → lk ls' 2 = some (.ref 171) → lk ls' 3 = some (.ref 201) → lk ls' 4 = some (.int (I t)) → lok ls' = true → INV sh (b + 600) h' → CR h' → bc ≤ bc' + 1 → bs ≤ bs' + 6 → K 1582 ls' [] h' bc' bs') : K 943 ls [] h bc bs := by
  have hK := sub_K hK 28 (S := aS28) rfl
  have hmono := MONO_CLd SPt_mono 310
  refine x_aload_n 944 hK rfl rfl l1 ?_
  refine x_aload_n 945 hK rfl rfl l0 ?_
  refine x_iload 947 hK rfl rfl l4 ?_
  refine x_iconst 948 hK rfl rfl ?_
  refine x_iadd 949 hK rfl rfl ?_
  refine x_scr 950 28 hX rfl rfl rfl (by omega) (by omega) ?_
  refine x_callV 953 hK hmono rfl rfl [.ref 0, .int (I ((xs (t + 1).toNat).toInt))] [] rfl rfl (Nat.le_of_ble_eq_true rfl) (Nat.le_of_ble_eq_true rfl) rfl (s0_ hI) (pr_relay hI hC hb (r_I _)) ?_
  rintro v1 h1 ⟨e1, re1, rfl, hG1, cl1⟩
  refine x_pop 954 hK rfl rfl rfl ?_
  refine x_aload_n 955 hK rfl rfl l2 ?_
  refine x_aload_n 956 hK rfl rfl l0 ?_
  refine x_iload 958 hK rfl rfl l4 ?_
  refine x_iconst 959 hK rfl rfl ?_
  refine x_iadd 960 hK rfl rfl ?_
  refine x_scr 961 28 hX rfl rfl rfl (by omega) (by omega) ?_
  refine x_callV 964 hK hmono rfl rfl [.ref 171, .int (I ((xs (t + 1).toNat).toInt))] [] rfl rfl (Nat.le_of_ble_eq_true rfl) (Nat.le_of_ble_eq_true rfl) rfl (s171g_ hG1) cl1 ?_
  rintro v2 h2 ⟨e2, re2, rfl, ee2, hI2, hC2⟩
  refine x_pop 965 hK rfl rfl rfl ?_
  refine x_goto 1582 hK rfl rfl ?_
  exact hE _ _ _ _ l0 l1 l2 l3 l4 lo (hI2.mono (by omega)) hC2 (by omega) (by omega)
set_option maxRecDepth 8000 in
theorem lc29 (hK : CLO (CLd SPt 310) ac9L_law (some .boolean) lwQ K) (hX : ∀ (pc : Nat) (ls : List (Nat × Value)) (st : List Value) (h : aH) (bc bs : Nat), lwXR Lx xs K pc ls st h bc bs → K pc ls st h bc bs) {t b : Int} {h : aH} {ls : List (Nat × Value)} {bc bs : Nat} (ht : 0 ≤ t ∧ t + 5 ≤ (Lx : Int)) (hL : Lx ≤ 2560) (hI : INV sh b h) (hC : CR h) (hb : b ≤ 320000) (l0 : lk ls 0 = some (.ref 1000006)) (l1 : lk ls 1 = some (.ref 0)) (l2 : lk ls 2 = some (.ref 171)) (l3 : lk ls 3 = some (.ref 201)) (l4 : lk ls 4 = some (.int (I t))) (lo : lok ls = true) (hbc : 1 ≤ bc) (hbs : 6 ≤ bs)
    (hE : ∀ (ls' : List (Nat × Value)) (h' : aH) (bc' bs' : Nat), lk ls' 0 = some (.ref 1000006) → lk ls' 1 = some (.ref 0) → lk ls' 2 = some (.ref 171) → lk ls' 3 = some (.ref 201) → lk ls' 4 = some (.int (I t)) → lok ls' = true → INV sh (b + 600) h' → CR h' → bc ≤ bc' + 1 → bs ≤ bs' + 6 → K 1582 ls' [] h' bc' bs') : K 968 ls [] h bc bs := by
  have hK := sub_K hK 29 (S := aS29) rfl
  have hmono := MONO_CLd SPt_mono 310
  refine x_aload_n 969 hK rfl rfl l1 ?_
  refine x_aload_n 970 hK rfl rfl l0 ?_
  refine x_iload 972 hK rfl rfl l4 ?_
  refine x_iconst 973 hK rfl rfl ?_
  refine x_iadd 974 hK rfl rfl ?_
  refine x_scr 975 29 hX rfl rfl rfl (by omega) (by omega) ?_
  refine x_callV 978 hK hmono rfl rfl [.ref 0, .int (I ((xs (t + 1).toNat).toInt))] [] rfl rfl (Nat.le_of_ble_eq_true rfl) (Nat.le_of_ble_eq_true rfl) rfl (s0_ hI) (pr_fewest hI hC hb (r_I _)) ?_
  rintro v1 h1 ⟨e1, re1, rfl, hG1, cl1⟩
  refine x_pop 979 hK rfl rfl rfl ?_
  refine x_aload_n 980 hK rfl rfl l2 ?_
  refine x_aload_n 981 hK rfl rfl l0 ?_
  refine x_iload 983 hK rfl rfl l4 ?_
  refine x_iconst 984 hK rfl rfl ?_
  refine x_iadd 985 hK rfl rfl ?_
  refine x_scr 986 29 hX rfl rfl rfl (by omega) (by omega) ?_
  refine x_callV 989 hK hmono rfl rfl [.ref 171, .int (I ((xs (t + 1).toNat).toInt))] [] rfl rfl (Nat.le_of_ble_eq_true rfl) (Nat.le_of_ble_eq_true rfl) rfl (s171g_ hG1) cl1 ?_
  rintro v2 h2 ⟨e2, re2, rfl, ee2, hI2, hC2⟩
  refine x_pop 990 hK rfl rfl rfl ?_
  refine x_goto 1582 hK rfl rfl ?_
  exact hE _ _ _ _ l0 l1 l2 l3 l4 lo (hI2.mono (by omega)) hC2 (by omega) (by omega)
set_option maxRecDepth 8000 in
theorem lc30 (hK : CLO (CLd SPt 310) ac9L_law (some .boolean) lwQ K) (hX : ∀ (pc : Nat) (ls : List (Nat × Value)) (st : List Value) (h : aH) (bc bs : Nat), lwXR Lx xs K pc ls st h bc bs → K pc ls st h bc bs) {t b : Int} {h : aH} {ls : List (Nat × Value)} {bc bs : Nat} (ht : 0 ≤ t ∧ t + 5 ≤ (Lx : Int)) (hL : Lx ≤ 2560) (hI : INV sh b h) (hC : CR h) (hb : b ≤ 320000) (l0 : lk ls 0 = some (.ref 1000006)) (l1 : lk ls 1 = some (.ref 0)) (l2 : lk ls 2 = some (.ref 171)) (l3 : lk ls 3 = some (.ref 201)) (l4 : lk ls 4 = some (.int (I t))) (lo : lok ls = true) (hbc : 1 ≤ bc) (hbs : 6 ≤ bs)
    (hE : ∀ (ls' : List (Nat × Value)) (h' : aH) (bc' bs' : Nat), lk ls' 0 = some (.ref 1000006) → lk ls' 1 = some (.ref 0) → lk ls' 2 = some (.ref 171) → lk ls' 3 = some (.ref 201) → lk ls' 4 = some (.int (I t)) → lok ls' = true → INV sh (b + 600) h' → CR h' → bc ≤ bc' + 1 → bs ≤ bs' + 6 → K 1582 ls' [] h' bc' bs') : K 993 ls [] h bc bs := by
  have hK := sub_K hK 30 (S := aS30) rfl
  have hmono := MONO_CLd SPt_mono 310
  refine x_aload_n 994 hK rfl rfl l1 ?_
  refine x_aload_n 995 hK rfl rfl l0 ?_
  refine x_iload 997 hK rfl rfl l4 ?_
  refine x_iconst 998 hK rfl rfl ?_
  refine x_iadd 999 hK rfl rfl ?_
  refine x_scr 1000 30 hX rfl rfl rfl (by omega) (by omega) ?_
  refine x_aload_n 1001 hK rfl rfl l0 ?_
  refine x_iload 1003 hK rfl rfl l4 ?_
  refine x_iconst 1004 hK rfl rfl ?_
  refine x_iadd 1005 hK rfl rfl ?_
  refine x_scr 1006 30 hX rfl rfl rfl (by omega) (by omega) ?_
  refine x_callV 1009 hK hmono rfl rfl [.ref 0, .int (I ((xs (t + 1).toNat).toInt)), .int (I ((xs (t + 2).toNat).toInt))] [] rfl rfl (Nat.le_of_ble_eq_true rfl) (Nat.le_of_ble_eq_true rfl) rfl (s0_ hI) (pr_word hI hC hb (r_I _) (r_I _)) ?_
  rintro v1 h1 ⟨e1, re1, rfl, hG1, cl1⟩
  refine x_pop 1010 hK rfl rfl rfl ?_
  refine x_aload_n 1011 hK rfl rfl l2 ?_
  refine x_aload_n 1012 hK rfl rfl l0 ?_
  refine x_iload 1014 hK rfl rfl l4 ?_
  refine x_iconst 1015 hK rfl rfl ?_
  refine x_iadd 1016 hK rfl rfl ?_
  refine x_scr 1017 30 hX rfl rfl rfl (by omega) (by omega) ?_
  refine x_aload_n 1018 hK rfl rfl l0 ?_
  refine x_iload 1020 hK rfl rfl l4 ?_
  refine x_iconst 1021 hK rfl rfl ?_
  refine x_iadd 1022 hK rfl rfl ?_
  refine x_scr 1023 30 hX rfl rfl rfl (by omega) (by omega) ?_
  refine x_callV 1026 hK hmono rfl rfl [.ref 171, .int (I ((xs (t + 1).toNat).toInt)), .int (I ((xs (t + 2).toNat).toInt))] [] rfl rfl (Nat.le_of_ble_eq_true rfl) (Nat.le_of_ble_eq_true rfl) rfl (s171g_ hG1) cl1 ?_
  rintro v2 h2 ⟨e2, re2, rfl, ee2, hI2, hC2⟩
  refine x_pop 1027 hK rfl rfl rfl ?_
  refine x_goto 1582 hK rfl rfl ?_
  exact hE _ _ _ _ l0 l1 l2 l3 l4 lo (hI2.mono (by omega)) hC2 (by omega) (by omega)
set_option maxRecDepth 8000 in
theorem lc31 (hK : CLO (CLd SPt 310) ac9L_law (some .boolean) lwQ K) (hX : ∀ (pc : Nat) (ls : List (Nat × Value)) (st : List Value) (h : aH) (bc bs : Nat), lwXR Lx xs K pc ls st h bc bs → K pc ls st h bc bs) {t b : Int} {h : aH} {ls : List (Nat × Value)} {bc bs : Nat} (ht : 0 ≤ t ∧ t + 5 ≤ (Lx : Int)) (hL : Lx ≤ 2560) (hI : INV sh b h) (hC : CR h) (hb : b ≤ 320000) (l0 : lk ls 0 = some (.ref 1000006)) (l1 : lk ls 1 = some (.ref 0)) (l2 : lk ls 2 = some (.ref 171)) (l3 : lk ls 3 = some (.ref 201)) (l4 : lk ls 4 = some (.int (I t))) (lo : lok ls = true) (hbc : 1 ≤ bc) (hbs : 6 ≤ bs)
    (hE : ∀ (ls' : List (Nat × Value)) (h' : aH) (bc' bs' : Nat), lk ls' 0 = some (.ref 1000006) → lk ls' 1 = some (.ref 0) → lk ls' 2 = some (.ref 171) → lk ls' 3 = some (.ref 201) → lk ls' 4 = some (.int (I t)) → lok ls' = true → INV sh (b + 600) h' → CR h' → bc ≤ bc' + 1 → bs ≤ bs' + 6 → K 1582 ls' [] h' bc' bs') : K 1030 ls [] h bc bs := by
  have hK := sub_K hK 31 (S := aS31) rfl
  have hmono := MONO_CLd SPt_mono 310
  refine x_aload_n 1031 hK rfl rfl l1 ?_
  refine x_aload_n 1032 hK rfl rfl l0 ?_
  refine x_iload 1034 hK rfl rfl l4 ?_
  refine x_iconst 1035 hK rfl rfl ?_
  refine x_iadd 1036 hK rfl rfl ?_
  refine x_scr 1037 31 hX rfl rfl rfl (by omega) (by omega) ?_
  refine x_aload_n 1038 hK rfl rfl l0 ?_
  refine x_iload 1040 hK rfl rfl l4 ?_
  refine x_iconst 1041 hK rfl rfl ?_
  refine x_iadd 1042 hK rfl rfl ?_
  refine x_scr 1043 31 hX rfl rfl rfl (by omega) (by omega) ?_
  refine x_callV 1046 hK hmono rfl rfl [.ref 0, .int (I ((xs (t + 1).toNat).toInt)), .int (I ((xs (t + 2).toNat).toInt))] [] rfl rfl (Nat.le_of_ble_eq_true rfl) (Nat.le_of_ble_eq_true rfl) rfl (s0_ hI) (pr_survives hI hC hb (r_I _) (r_I _)) ?_
  rintro v1 h1 ⟨e1, re1, rfl, hG1, cl1⟩
  refine x_pop 1047 hK rfl rfl rfl ?_
  refine x_aload_n 1048 hK rfl rfl l2 ?_
  refine x_aload_n 1049 hK rfl rfl l0 ?_
  refine x_iload 1051 hK rfl rfl l4 ?_
  refine x_iconst 1052 hK rfl rfl ?_
  refine x_iadd 1053 hK rfl rfl ?_
  refine x_scr 1054 31 hX rfl rfl rfl (by omega) (by omega) ?_
  refine x_aload_n 1055 hK rfl rfl l0 ?_
  refine x_iload 1057 hK rfl rfl l4 ?_
  refine x_iconst 1058 hK rfl rfl ?_
  refine x_iadd 1059 hK rfl rfl ?_
  refine x_scr 1060 31 hX rfl rfl rfl (by omega) (by omega) ?_
  refine x_callV 1063 hK hmono rfl rfl [.ref 171, .int (I ((xs (t + 1).toNat).toInt)), .int (I ((xs (t + 2).toNat).toInt))] [] rfl rfl (Nat.le_of_ble_eq_true rfl) (Nat.le_of_ble_eq_true rfl) rfl (s171g_ hG1) cl1 ?_
  rintro v2 h2 ⟨e2, re2, rfl, ee2, hI2, hC2⟩
  refine x_pop 1064 hK rfl rfl rfl ?_
  refine x_goto 1582 hK rfl rfl ?_
  exact hE _ _ _ _ l0 l1 l2 l3 l4 lo (hI2.mono (by omega)) hC2 (by omega) (by omega)
set_option maxRecDepth 8000 in
theorem lc32 (hK : CLO (CLd SPt 310) ac9L_law (some .boolean) lwQ K) (hX : ∀ (pc : Nat) (ls : List (Nat × Value)) (st : List Value) (h : aH) (bc bs : Nat), lwXR Lx xs K pc ls st h bc bs → K pc ls st h bc bs) {t b : Int} {h : aH} {ls : List (Nat × Value)} {bc bs : Nat} (ht : 0 ≤ t ∧ t + 5 ≤ (Lx : Int)) (hL : Lx ≤ 2560) (hI : INV sh b h) (hC : CR h) (hb : b ≤ 320000) (l0 : lk ls 0 = some (.ref 1000006)) (l1 : lk ls 1 = some (.ref 0)) (l2 : lk ls 2 = some (.ref 171)) (l3 : lk ls 3 = some (.ref 201)) (l4 : lk ls 4 = some (.int (I t))) (lo : lok ls = true) (hbc : 1 ≤ bc) (hbs : 6 ≤ bs)
    (hE : ∀ (ls' : List (Nat × Value)) (h' : aH) (bc' bs' : Nat), lk ls' 0 = some (.ref 1000006) → lk ls' 1 = some (.ref 0) → lk ls' 2 = some (.ref 171) → lk ls' 3 = some (.ref 201) → lk ls' 4 = some (.int (I t)) → lok ls' = true → INV sh (b + 600) h' → CR h' → bc ≤ bc' + 1 → bs ≤ bs' + 6 → K 1582 ls' [] h' bc' bs') : K 1067 ls [] h bc bs := by
  have hK := sub_K hK 32 (S := aS32) rfl
  have hmono := MONO_CLd SPt_mono 310
  refine x_aload_n 1068 hK rfl rfl l1 ?_
  refine x_aload_n 1069 hK rfl rfl l0 ?_
  refine x_iload 1071 hK rfl rfl l4 ?_
  refine x_iconst 1072 hK rfl rfl ?_
  refine x_iadd 1073 hK rfl rfl ?_
  refine x_scr 1074 32 hX rfl rfl rfl (by omega) (by omega) ?_
  refine x_callV 1077 hK hmono rfl rfl [.ref 0, .int (I ((xs (t + 1).toNat).toInt))] [] rfl rfl (Nat.le_of_ble_eq_true rfl) (Nat.le_of_ble_eq_true rfl) rfl (s0_ hI) (pr_lives hI hC hb (r_I _)) ?_
  rintro v1 h1 ⟨e1, re1, rfl, hG1, cl1⟩
  refine x_pop 1078 hK rfl rfl rfl ?_
  refine x_aload_n 1079 hK rfl rfl l2 ?_
  refine x_aload_n 1080 hK rfl rfl l0 ?_
  refine x_iload 1082 hK rfl rfl l4 ?_
  refine x_iconst 1083 hK rfl rfl ?_
  refine x_iadd 1084 hK rfl rfl ?_
  refine x_scr 1085 32 hX rfl rfl rfl (by omega) (by omega) ?_
  refine x_callV 1088 hK hmono rfl rfl [.ref 171, .int (I ((xs (t + 1).toNat).toInt))] [] rfl rfl (Nat.le_of_ble_eq_true rfl) (Nat.le_of_ble_eq_true rfl) rfl (s171g_ hG1) cl1 ?_
  rintro v2 h2 ⟨e2, re2, rfl, ee2, hI2, hC2⟩
  refine x_pop 1089 hK rfl rfl rfl ?_
  refine x_goto 1582 hK rfl rfl ?_
  exact hE _ _ _ _ l0 l1 l2 l3 l4 lo (hI2.mono (by omega)) hC2 (by omega) (by omega)
set_option maxRecDepth 8000 in
theorem lc33 (hK : CLO (CLd SPt 310) ac9L_law (some .boolean) lwQ K) (hX : ∀ (pc : Nat) (ls : List (Nat × Value)) (st : List Value) (h : aH) (bc bs : Nat), lwXR Lx xs K pc ls st h bc bs → K pc ls st h bc bs) {t b : Int} {h : aH} {ls : List (Nat × Value)} {bc bs : Nat} (ht : 0 ≤ t ∧ t + 5 ≤ (Lx : Int)) (hL : Lx ≤ 2560) (hI : INV sh b h) (hC : CR h) (hb : b ≤ 320000) (l0 : lk ls 0 = some (.ref 1000006)) (l1 : lk ls 1 = some (.ref 0)) (l2 : lk ls 2 = some (.ref 171)) (l3 : lk ls 3 = some (.ref 201)) (l4 : lk ls 4 = some (.int (I t))) (lo : lok ls = true) (hbc : 1 ≤ bc) (hbs : 6 ≤ bs)
    (hE : ∀ (ls' : List (Nat × Value)) (h' : aH) (bc' bs' : Nat), lk ls' 0 = some (.ref 1000006) → lk ls' 1 = some (.ref 0) → lk ls' 2 = some (.ref 171) → lk ls' 3 = some (.ref 201) → lk ls' 4 = some (.int (I t)) → lok ls' = true → INV sh (b + 600) h' → CR h' → bc ≤ bc' + 1 → bs ≤ bs' + 6 → K 1582 ls' [] h' bc' bs') : K 1092 ls [] h bc bs := by
  have hK := sub_K hK 33 (S := aS33) rfl
  have hmono := MONO_CLd SPt_mono 310
  refine x_aload_n 1093 hK rfl rfl l1 ?_
  refine x_aload_n 1094 hK rfl rfl l0 ?_
  refine x_iload 1096 hK rfl rfl l4 ?_
  refine x_iconst 1097 hK rfl rfl ?_
  refine x_iadd 1098 hK rfl rfl ?_
  refine x_scr 1099 33 hX rfl rfl rfl (by omega) (by omega) ?_
  refine x_callV 1102 hK hmono rfl rfl [.ref 0, .int (I ((xs (t + 1).toNat).toInt))] [] rfl rfl (Nat.le_of_ble_eq_true rfl) (Nat.le_of_ble_eq_true rfl) rfl (s0_ hI) (pr_shares hI hC hb (r_I _)) ?_
  rintro v1 h1 ⟨e1, re1, rfl, hG1, cl1⟩
  refine x_pop 1103 hK rfl rfl rfl ?_
  refine x_aload_n 1104 hK rfl rfl l2 ?_
  refine x_aload_n 1105 hK rfl rfl l0 ?_
  refine x_iload 1107 hK rfl rfl l4 ?_
  refine x_iconst 1108 hK rfl rfl ?_
  refine x_iadd 1109 hK rfl rfl ?_
  refine x_scr 1110 33 hX rfl rfl rfl (by omega) (by omega) ?_
  refine x_callV 1113 hK hmono rfl rfl [.ref 171, .int (I ((xs (t + 1).toNat).toInt))] [] rfl rfl (Nat.le_of_ble_eq_true rfl) (Nat.le_of_ble_eq_true rfl) rfl (s171g_ hG1) cl1 ?_
  rintro v2 h2 ⟨e2, re2, rfl, ee2, hI2, hC2⟩
  refine x_pop 1114 hK rfl rfl rfl ?_
  refine x_goto 1582 hK rfl rfl ?_
  exact hE _ _ _ _ l0 l1 l2 l3 l4 lo (hI2.mono (by omega)) hC2 (by omega) (by omega)
set_option maxRecDepth 8000 in
theorem lc34 (hK : CLO (CLd SPt 310) ac9L_law (some .boolean) lwQ K) (hX : ∀ (pc : Nat) (ls : List (Nat × Value)) (st : List Value) (h : aH) (bc bs : Nat), lwXR Lx xs K pc ls st h bc bs → K pc ls st h bc bs) {t b : Int} {h : aH} {ls : List (Nat × Value)} {bc bs : Nat} (ht : 0 ≤ t ∧ t + 5 ≤ (Lx : Int)) (hL : Lx ≤ 2560) (hI : INV sh b h) (hC : CR h) (hb : b ≤ 320000) (l0 : lk ls 0 = some (.ref 1000006)) (l1 : lk ls 1 = some (.ref 0)) (l2 : lk ls 2 = some (.ref 171)) (l3 : lk ls 3 = some (.ref 201)) (l4 : lk ls 4 = some (.int (I t))) (lo : lok ls = true) (hbc : 1 ≤ bc) (hbs : 6 ≤ bs)
    (hE : ∀ (ls' : List (Nat × Value)) (h' : aH) (bc' bs' : Nat), lk ls' 0 = some (.ref 1000006) → lk ls' 1 = some (.ref 0) → lk ls' 2 = some (.ref 171) → lk ls' 3 = some (.ref 201) → lk ls' 4 = some (.int (I t)) → lok ls' = true → INV sh (b + 600) h' → CR h' → bc ≤ bc' + 1 → bs ≤ bs' + 6 → K 1582 ls' [] h' bc' bs') : K 1117 ls [] h bc bs := by
  have hK := sub_K hK 34 (S := aS34) rfl
  have hmono := MONO_CLd SPt_mono 310
  refine x_aload_n 1118 hK rfl rfl l1 ?_
  refine x_aload_n 1119 hK rfl rfl l0 ?_
  refine x_iload 1121 hK rfl rfl l4 ?_
  refine x_iconst 1122 hK rfl rfl ?_
  refine x_iadd 1123 hK rfl rfl ?_
  refine x_scr 1124 34 hX rfl rfl rfl (by omega) (by omega) ?_
  refine x_callV 1127 hK hmono rfl rfl [.ref 0, .int (I ((xs (t + 1).toNat).toInt))] [] rfl rfl (Nat.le_of_ble_eq_true rfl) (Nat.le_of_ble_eq_true rfl) rfl (s0_ hI) (pr_fast hI hC hb (r_I _)) ?_
  rintro v1 h1 ⟨e1, re1, rfl, hG1, cl1⟩
  refine x_pop 1128 hK rfl rfl rfl ?_
  refine x_aload_n 1129 hK rfl rfl l2 ?_
  refine x_aload_n 1130 hK rfl rfl l0 ?_
  refine x_iload 1132 hK rfl rfl l4 ?_
  refine x_iconst 1133 hK rfl rfl ?_
  refine x_iadd 1134 hK rfl rfl ?_
  refine x_scr 1135 34 hX rfl rfl rfl (by omega) (by omega) ?_
  refine x_callV 1138 hK hmono rfl rfl [.ref 171, .int (I ((xs (t + 1).toNat).toInt))] [] rfl rfl (Nat.le_of_ble_eq_true rfl) (Nat.le_of_ble_eq_true rfl) rfl (s171g_ hG1) cl1 ?_
  rintro v2 h2 ⟨e2, re2, rfl, ee2, hI2, hC2⟩
  refine x_pop 1139 hK rfl rfl rfl ?_
  refine x_goto 1582 hK rfl rfl ?_
  exact hE _ _ _ _ l0 l1 l2 l3 l4 lo (hI2.mono (by omega)) hC2 (by omega) (by omega)
set_option maxRecDepth 8000 in
theorem lc35 (hK : CLO (CLd SPt 310) ac9L_law (some .boolean) lwQ K) (hX : ∀ (pc : Nat) (ls : List (Nat × Value)) (st : List Value) (h : aH) (bc bs : Nat), lwXR Lx xs K pc ls st h bc bs → K pc ls st h bc bs) {t b : Int} {h : aH} {ls : List (Nat × Value)} {bc bs : Nat} (ht : 0 ≤ t ∧ t + 5 ≤ (Lx : Int)) (hL : Lx ≤ 2560) (hI : INV sh b h) (hC : CR h) (hb : b ≤ 320000) (l0 : lk ls 0 = some (.ref 1000006)) (l1 : lk ls 1 = some (.ref 0)) (l2 : lk ls 2 = some (.ref 171)) (l3 : lk ls 3 = some (.ref 201)) (l4 : lk ls 4 = some (.int (I t))) (lo : lok ls = true) (hbc : 1 ≤ bc) (hbs : 6 ≤ bs)
    (hE : ∀ (ls' : List (Nat × Value)) (h' : aH) (bc' bs' : Nat), lk ls' 0 = some (.ref 1000006) → lk ls' 1 = some (.ref 0) → lk ls' 2 = some (.ref 171) → lk ls' 3 = some (.ref 201) → lk ls' 4 = some (.int (I t)) → lok ls' = true → INV sh (b + 600) h' → CR h' → bc ≤ bc' + 1 → bs ≤ bs' + 6 → K 1582 ls' [] h' bc' bs') : K 1142 ls [] h bc bs := by
  have hK := sub_K hK 35 (S := aS35) rfl
  have hmono := MONO_CLd SPt_mono 310
  refine x_aload_n 1143 hK rfl rfl l1 ?_
  refine x_aload_n 1144 hK rfl rfl l0 ?_
  refine x_iload 1146 hK rfl rfl l4 ?_
  refine x_iconst 1147 hK rfl rfl ?_
  refine x_iadd 1148 hK rfl rfl ?_
  refine x_scr 1149 35 hX rfl rfl rfl (by omega) (by omega) ?_
  refine x_aload_n 1150 hK rfl rfl l0 ?_
  refine x_iload 1152 hK rfl rfl l4 ?_
  refine x_iconst 1153 hK rfl rfl ?_
  refine x_iadd 1154 hK rfl rfl ?_
  refine x_scr 1155 35 hX rfl rfl rfl (by omega) (by omega) ?_
  refine x_callV 1158 hK hmono rfl rfl [.ref 0, .int (I ((xs (t + 1).toNat).toInt)), .int (I ((xs (t + 2).toNat).toInt))] [] rfl rfl (Nat.le_of_ble_eq_true rfl) (Nat.le_of_ble_eq_true rfl) rfl (s0_ hI) (pr_seen hI hC hb (r_I _) (r_I _)) ?_
  rintro v1 h1 ⟨e1, re1, rfl, hG1, cl1⟩
  refine x_pop 1159 hK rfl rfl rfl ?_
  refine x_aload_n 1160 hK rfl rfl l2 ?_
  refine x_aload_n 1161 hK rfl rfl l0 ?_
  refine x_iload 1163 hK rfl rfl l4 ?_
  refine x_iconst 1164 hK rfl rfl ?_
  refine x_iadd 1165 hK rfl rfl ?_
  refine x_scr 1166 35 hX rfl rfl rfl (by omega) (by omega) ?_
  refine x_aload_n 1167 hK rfl rfl l0 ?_
  refine x_iload 1169 hK rfl rfl l4 ?_
  refine x_iconst 1170 hK rfl rfl ?_
  refine x_iadd 1171 hK rfl rfl ?_
  refine x_scr 1172 35 hX rfl rfl rfl (by omega) (by omega) ?_
  refine x_callV 1175 hK hmono rfl rfl [.ref 171, .int (I ((xs (t + 1).toNat).toInt)), .int (I ((xs (t + 2).toNat).toInt))] [] rfl rfl (Nat.le_of_ble_eq_true rfl) (Nat.le_of_ble_eq_true rfl) rfl (s171g_ hG1) cl1 ?_
  rintro v2 h2 ⟨e2, re2, rfl, ee2, hI2, hC2⟩
  refine x_pop 1176 hK rfl rfl rfl ?_
  refine x_goto 1582 hK rfl rfl ?_
  exact hE _ _ _ _ l0 l1 l2 l3 l4 lo (hI2.mono (by omega)) hC2 (by omega) (by omega)
set_option maxRecDepth 8000 in
theorem lc36 (hK : CLO (CLd SPt 310) ac9L_law (some .boolean) lwQ K) (hX : ∀ (pc : Nat) (ls : List (Nat × Value)) (st : List Value) (h : aH) (bc bs : Nat), lwXR Lx xs K pc ls st h bc bs → K pc ls st h bc bs) {t b : Int} {h : aH} {ls : List (Nat × Value)} {bc bs : Nat} (ht : 0 ≤ t ∧ t + 5 ≤ (Lx : Int)) (hL : Lx ≤ 2560) (hI : INV sh b h) (hC : CR h) (hb : b ≤ 320000) (l0 : lk ls 0 = some (.ref 1000006)) (l1 : lk ls 1 = some (.ref 0)) (l2 : lk ls 2 = some (.ref 171)) (l3 : lk ls 3 = some (.ref 201)) (l4 : lk ls 4 = some (.int (I t))) (lo : lok ls = true) (hbc : 1 ≤ bc) (hbs : 6 ≤ bs)
    (hE : ∀ (ls' : List (Nat × Value)) (h' : aH) (bc' bs' : Nat), lk ls' 0 = some (.ref 1000006) → lk ls' 1 = some (.ref 0) → lk ls' 2 = some (.ref 171) → lk ls' 3 = some (.ref 201) → lk ls' 4 = some (.int (I t)) → lok ls' = true → INV sh (b + 600) h' → CR h' → bc ≤ bc' + 1 → bs ≤ bs' + 6 → K 1582 ls' [] h' bc' bs') : K 1179 ls [] h bc bs := by
  have hK := sub_K hK 36 (S := aS36) rfl
  have hmono := MONO_CLd SPt_mono 310
  refine x_aload_n 1180 hK rfl rfl l1 ?_
  refine x_callV 1183 hK hmono rfl rfl [.ref 0] [] rfl rfl (Nat.le_of_ble_eq_true rfl) (Nat.le_of_ble_eq_true rfl) rfl (s0_ hI) (pr_forget hI hC hb ) ?_
  rintro v1 h1 ⟨e1, re1, rfl, hG1, cl1⟩
  refine x_pop 1184 hK rfl rfl rfl ?_
  refine x_aload_n 1185 hK rfl rfl l2 ?_
  refine x_callV 1188 hK hmono rfl rfl [.ref 171] [] rfl rfl (Nat.le_of_ble_eq_true rfl) (Nat.le_of_ble_eq_true rfl) rfl (s171g_ hG1) cl1 ?_
  rintro v2 h2 ⟨e2, re2, rfl, ee2, hI2, hC2⟩
  refine x_pop 1189 hK rfl rfl rfl ?_
  refine x_goto 1582 hK rfl rfl ?_
  exact hE _ _ _ _ l0 l1 l2 l3 l4 lo (hI2.mono (by omega)) hC2 (by omega) (by omega)
set_option maxRecDepth 8000 in
theorem lc37 (hK : CLO (CLd SPt 310) ac9L_law (some .boolean) lwQ K) (hX : ∀ (pc : Nat) (ls : List (Nat × Value)) (st : List Value) (h : aH) (bc bs : Nat), lwXR Lx xs K pc ls st h bc bs → K pc ls st h bc bs) {t b : Int} {h : aH} {ls : List (Nat × Value)} {bc bs : Nat} (ht : 0 ≤ t ∧ t + 5 ≤ (Lx : Int)) (hL : Lx ≤ 2560) (hI : INV sh b h) (hC : CR h) (hb : b ≤ 320000) (l0 : lk ls 0 = some (.ref 1000006)) (l1 : lk ls 1 = some (.ref 0)) (l2 : lk ls 2 = some (.ref 171)) (l3 : lk ls 3 = some (.ref 201)) (l4 : lk ls 4 = some (.int (I t))) (lo : lok ls = true) (hbc : 1 ≤ bc) (hbs : 6 ≤ bs)
    (hE : ∀ (ls' : List (Nat × Value)) (h' : aH) (bc' bs' : Nat), lk ls' 0 = some (.ref 1000006) → lk ls' 1 = some (.ref 0) → lk ls' 2 = some (.ref 171) → lk ls' 3 = some (.ref 201) → lk ls' 4 = some (.int (I t)) → lok ls' = true → INV sh (b + 600) h' → CR h' → bc ≤ bc' + 1 → bs ≤ bs' + 6 → K 1582 ls' [] h' bc' bs') : K 1192 ls [] h bc bs := by
  have hK := sub_K hK 37 (S := aS37) rfl
  have hmono := MONO_CLd SPt_mono 310
  refine x_aload_n 1193 hK rfl rfl l1 ?_
  refine x_callV 1196 hK hmono rfl rfl [.ref 0] [] rfl rfl (Nat.le_of_ble_eq_true rfl) (Nat.le_of_ble_eq_true rfl) rfl (s0_ hI) (pr_ordered hI hC hb ) ?_
  rintro v1 h1 ⟨e1, re1, rfl, hG1, cl1⟩
  refine x_pop 1197 hK rfl rfl rfl ?_
  refine x_aload_n 1198 hK rfl rfl l2 ?_
  refine x_callV 1201 hK hmono rfl rfl [.ref 171] [] rfl rfl (Nat.le_of_ble_eq_true rfl) (Nat.le_of_ble_eq_true rfl) rfl (s171g_ hG1) cl1 ?_
  rintro v2 h2 ⟨e2, re2, rfl, ee2, hI2, hC2⟩
  refine x_pop 1202 hK rfl rfl rfl ?_
  refine x_goto 1582 hK rfl rfl ?_
  exact hE _ _ _ _ l0 l1 l2 l3 l4 lo (hI2.mono (by omega)) hC2 (by omega) (by omega)
set_option maxRecDepth 8000 in
theorem lc38 (hK : CLO (CLd SPt 310) ac9L_law (some .boolean) lwQ K) (hX : ∀ (pc : Nat) (ls : List (Nat × Value)) (st : List Value) (h : aH) (bc bs : Nat), lwXR Lx xs K pc ls st h bc bs → K pc ls st h bc bs) {t b : Int} {h : aH} {ls : List (Nat × Value)} {bc bs : Nat} (ht : 0 ≤ t ∧ t + 5 ≤ (Lx : Int)) (hL : Lx ≤ 2560) (hI : INV sh b h) (hC : CR h) (hb : b ≤ 320000) (l0 : lk ls 0 = some (.ref 1000006)) (l1 : lk ls 1 = some (.ref 0)) (l2 : lk ls 2 = some (.ref 171)) (l3 : lk ls 3 = some (.ref 201)) (l4 : lk ls 4 = some (.int (I t))) (lo : lok ls = true) (hbc : 1 ≤ bc) (hbs : 6 ≤ bs)
    (hE : ∀ (ls' : List (Nat × Value)) (h' : aH) (bc' bs' : Nat), lk ls' 0 = some (.ref 1000006) → lk ls' 1 = some (.ref 0) → lk ls' 2 = some (.ref 171) → lk ls' 3 = some (.ref 201) → lk ls' 4 = some (.int (I t)) → lok ls' = true → INV sh (b + 600) h' → CR h' → bc ≤ bc' + 1 → bs ≤ bs' + 6 → K 1582 ls' [] h' bc' bs') : K 1205 ls [] h bc bs := by
  have hK := sub_K hK 38 (S := aS38) rfl
  have hmono := MONO_CLd SPt_mono 310
  refine x_aload_n 1206 hK rfl rfl l1 ?_
  refine x_callV 1209 hK hmono rfl rfl [.ref 0] [] rfl rfl (Nat.le_of_ble_eq_true rfl) (Nat.le_of_ble_eq_true rfl) rfl (s0_ hI) (pr_unsure hI hC hb ) ?_
  rintro v1 h1 ⟨e1, re1, rfl, hG1, cl1⟩
  refine x_pop 1210 hK rfl rfl rfl ?_
  refine x_aload_n 1211 hK rfl rfl l2 ?_
  refine x_callV 1214 hK hmono rfl rfl [.ref 171] [] rfl rfl (Nat.le_of_ble_eq_true rfl) (Nat.le_of_ble_eq_true rfl) rfl (s171g_ hG1) cl1 ?_
  rintro v2 h2 ⟨e2, re2, rfl, ee2, hI2, hC2⟩
  refine x_pop 1215 hK rfl rfl rfl ?_
  refine x_goto 1582 hK rfl rfl ?_
  exact hE _ _ _ _ l0 l1 l2 l3 l4 lo (hI2.mono (by omega)) hC2 (by omega) (by omega)
set_option maxRecDepth 8000 in
theorem lc39 (hK : CLO (CLd SPt 310) ac9L_law (some .boolean) lwQ K) (hX : ∀ (pc : Nat) (ls : List (Nat × Value)) (st : List Value) (h : aH) (bc bs : Nat), lwXR Lx xs K pc ls st h bc bs → K pc ls st h bc bs) {t b : Int} {h : aH} {ls : List (Nat × Value)} {bc bs : Nat} (ht : 0 ≤ t ∧ t + 5 ≤ (Lx : Int)) (hL : Lx ≤ 2560) (hI : INV sh b h) (hC : CR h) (hb : b ≤ 320000) (l0 : lk ls 0 = some (.ref 1000006)) (l1 : lk ls 1 = some (.ref 0)) (l2 : lk ls 2 = some (.ref 171)) (l3 : lk ls 3 = some (.ref 201)) (l4 : lk ls 4 = some (.int (I t))) (lo : lok ls = true) (hbc : 1 ≤ bc) (hbs : 6 ≤ bs)
    (hE : ∀ (ls' : List (Nat × Value)) (h' : aH) (bc' bs' : Nat), lk ls' 0 = some (.ref 1000006) → lk ls' 1 = some (.ref 0) → lk ls' 2 = some (.ref 171) → lk ls' 3 = some (.ref 201) → lk ls' 4 = some (.int (I t)) → lok ls' = true → INV sh (b + 600) h' → CR h' → bc ≤ bc' + 1 → bs ≤ bs' + 6 → K 1582 ls' [] h' bc' bs') : K 1218 ls [] h bc bs := by
  have hK := sub_K hK 39 (S := aS39) rfl
  have hmono := MONO_CLd SPt_mono 310
  refine x_aload_n 1219 hK rfl rfl l1 ?_
  refine x_aload_n 1220 hK rfl rfl l0 ?_
  refine x_iload 1222 hK rfl rfl l4 ?_
  refine x_iconst 1223 hK rfl rfl ?_
  refine x_iadd 1224 hK rfl rfl ?_
  refine x_scr 1225 39 hX rfl rfl rfl (by omega) (by omega) ?_
  refine x_aload_n 1226 hK rfl rfl l0 ?_
  refine x_iload 1228 hK rfl rfl l4 ?_
  refine x_iconst 1229 hK rfl rfl ?_
  refine x_iadd 1230 hK rfl rfl ?_
  refine x_scr 1231 39 hX rfl rfl rfl (by omega) (by omega) ?_
  refine x_callV 1234 hK hmono rfl rfl [.ref 0, .int (I ((xs (t + 1).toNat).toInt)), .int (I ((xs (t + 2).toNat).toInt))] [] rfl rfl (Nat.le_of_ble_eq_true rfl) (Nat.le_of_ble_eq_true rfl) rfl (s0_ hI) (pr_boy hI hC hb (r_I _) (r_I _)) ?_
  rintro v1 h1 ⟨e1, re1, rfl, hG1, cl1⟩
  refine x_pop 1235 hK rfl rfl rfl ?_
  refine x_aload_n 1236 hK rfl rfl l2 ?_
  refine x_aload_n 1237 hK rfl rfl l0 ?_
  refine x_iload 1239 hK rfl rfl l4 ?_
  refine x_iconst 1240 hK rfl rfl ?_
  refine x_iadd 1241 hK rfl rfl ?_
  refine x_scr 1242 39 hX rfl rfl rfl (by omega) (by omega) ?_
  refine x_aload_n 1243 hK rfl rfl l0 ?_
  refine x_iload 1245 hK rfl rfl l4 ?_
  refine x_iconst 1246 hK rfl rfl ?_
  refine x_iadd 1247 hK rfl rfl ?_
  refine x_scr 1248 39 hX rfl rfl rfl (by omega) (by omega) ?_
  refine x_callV 1251 hK hmono rfl rfl [.ref 171, .int (I ((xs (t + 1).toNat).toInt)), .int (I ((xs (t + 2).toNat).toInt))] [] rfl rfl (Nat.le_of_ble_eq_true rfl) (Nat.le_of_ble_eq_true rfl) rfl (s171g_ hG1) cl1 ?_
  rintro v2 h2 ⟨e2, re2, rfl, ee2, hI2, hC2⟩
  refine x_pop 1252 hK rfl rfl rfl ?_
  refine x_goto 1582 hK rfl rfl ?_
  exact hE _ _ _ _ l0 l1 l2 l3 l4 lo (hI2.mono (by omega)) hC2 (by omega) (by omega)
set_option maxRecDepth 8000 in
theorem lc40 (hK : CLO (CLd SPt 310) ac9L_law (some .boolean) lwQ K) (hX : ∀ (pc : Nat) (ls : List (Nat × Value)) (st : List Value) (h : aH) (bc bs : Nat), lwXR Lx xs K pc ls st h bc bs → K pc ls st h bc bs) {t b : Int} {h : aH} {ls : List (Nat × Value)} {bc bs : Nat} (ht : 0 ≤ t ∧ t + 5 ≤ (Lx : Int)) (hL : Lx ≤ 2560) (hI : INV sh b h) (hC : CR h) (hb : b ≤ 320000) (l0 : lk ls 0 = some (.ref 1000006)) (l1 : lk ls 1 = some (.ref 0)) (l2 : lk ls 2 = some (.ref 171)) (l3 : lk ls 3 = some (.ref 201)) (l4 : lk ls 4 = some (.int (I t))) (lo : lok ls = true) (hbc : 1 ≤ bc) (hbs : 6 ≤ bs)
    (hE : ∀ (ls' : List (Nat × Value)) (h' : aH) (bc' bs' : Nat), lk ls' 0 = some (.ref 1000006) → lk ls' 1 = some (.ref 0) → lk ls' 2 = some (.ref 171) → lk ls' 3 = some (.ref 201) → lk ls' 4 = some (.int (I t)) → lok ls' = true → INV sh (b + 600) h' → CR h' → bc ≤ bc' + 1 → bs ≤ bs' + 6 → K 1582 ls' [] h' bc' bs') : K 1255 ls [] h bc bs := by
  have hK := sub_K hK 40 (S := aS40) rfl
  have hmono := MONO_CLd SPt_mono 310
  refine x_aload_n 1256 hK rfl rfl l1 ?_
  refine x_aload_n 1257 hK rfl rfl l0 ?_
  refine x_iload 1259 hK rfl rfl l4 ?_
  refine x_iconst 1260 hK rfl rfl ?_
  refine x_iadd 1261 hK rfl rfl ?_
  refine x_scr 1262 40 hX rfl rfl rfl (by omega) (by omega) ?_
  refine x_callV 1265 hK hmono rfl rfl [.ref 0, .int (I ((xs (t + 1).toNat).toInt))] [] rfl rfl (Nat.le_of_ble_eq_true rfl) (Nat.le_of_ble_eq_true rfl) rfl (s0_ hI) (pr_meets hI hC hb (r_I _)) ?_
  rintro v1 h1 ⟨e1, re1, rfl, hG1, cl1⟩
  refine x_pop 1266 hK rfl rfl rfl ?_
  refine x_aload_n 1267 hK rfl rfl l2 ?_
  refine x_aload_n 1268 hK rfl rfl l0 ?_
  refine x_iload 1270 hK rfl rfl l4 ?_
  refine x_iconst 1271 hK rfl rfl ?_
  refine x_iadd 1272 hK rfl rfl ?_
  refine x_scr 1273 40 hX rfl rfl rfl (by omega) (by omega) ?_
  refine x_callV 1276 hK hmono rfl rfl [.ref 171, .int (I ((xs (t + 1).toNat).toInt))] [] rfl rfl (Nat.le_of_ble_eq_true rfl) (Nat.le_of_ble_eq_true rfl) rfl (s171g_ hG1) cl1 ?_
  rintro v2 h2 ⟨e2, re2, rfl, ee2, hI2, hC2⟩
  refine x_pop 1277 hK rfl rfl rfl ?_
  refine x_goto 1582 hK rfl rfl ?_
  exact hE _ _ _ _ l0 l1 l2 l3 l4 lo (hI2.mono (by omega)) hC2 (by omega) (by omega)
set_option maxRecDepth 8000 in
theorem lc41 (hK : CLO (CLd SPt 310) ac9L_law (some .boolean) lwQ K) (hX : ∀ (pc : Nat) (ls : List (Nat × Value)) (st : List Value) (h : aH) (bc bs : Nat), lwXR Lx xs K pc ls st h bc bs → K pc ls st h bc bs) {t b : Int} {h : aH} {ls : List (Nat × Value)} {bc bs : Nat} (ht : 0 ≤ t ∧ t + 5 ≤ (Lx : Int)) (hL : Lx ≤ 2560) (hI : INV sh b h) (hC : CR h) (hb : b ≤ 320000) (l0 : lk ls 0 = some (.ref 1000006)) (l1 : lk ls 1 = some (.ref 0)) (l2 : lk ls 2 = some (.ref 171)) (l3 : lk ls 3 = some (.ref 201)) (l4 : lk ls 4 = some (.int (I t))) (lo : lok ls = true) (hbc : 1 ≤ bc) (hbs : 6 ≤ bs)
    (hE : ∀ (ls' : List (Nat × Value)) (h' : aH) (bc' bs' : Nat), lk ls' 0 = some (.ref 1000006) → lk ls' 1 = some (.ref 0) → lk ls' 2 = some (.ref 171) → lk ls' 3 = some (.ref 201) → lk ls' 4 = some (.int (I t)) → lok ls' = true → INV sh (b + 600) h' → CR h' → bc ≤ bc' + 1 → bs ≤ bs' + 6 → K 1582 ls' [] h' bc' bs') : K 1280 ls [] h bc bs := by
  have hK := sub_K hK 41 (S := aS41) rfl
  have hmono := MONO_CLd SPt_mono 310
  refine x_aload_n 1281 hK rfl rfl l1 ?_
  refine x_aload_n 1282 hK rfl rfl l0 ?_
  refine x_iload 1284 hK rfl rfl l4 ?_
  refine x_iconst 1285 hK rfl rfl ?_
  refine x_iadd 1286 hK rfl rfl ?_
  refine x_scr 1287 41 hX rfl rfl rfl (by omega) (by omega) ?_
  refine x_aload_n 1288 hK rfl rfl l0 ?_
  refine x_iload 1290 hK rfl rfl l4 ?_
  refine x_iconst 1291 hK rfl rfl ?_
  refine x_iadd 1292 hK rfl rfl ?_
  refine x_scr 1293 41 hX rfl rfl rfl (by omega) (by omega) ?_
  refine x_callV 1296 hK hmono rfl rfl [.ref 0, .int (I ((xs (t + 1).toNat).toInt)), .int (I ((xs (t + 2).toNat).toInt))] [] rfl rfl (Nat.le_of_ble_eq_true rfl) (Nat.le_of_ble_eq_true rfl) rfl (s0_ hI) (pr_knows hI hC hb (r_I _) (r_I _)) ?_
  rintro v1 h1 ⟨e1, re1, rfl, hG1, cl1⟩
  refine x_pop 1297 hK rfl rfl rfl ?_
  refine x_aload_n 1298 hK rfl rfl l2 ?_
  refine x_aload_n 1299 hK rfl rfl l0 ?_
  refine x_iload 1301 hK rfl rfl l4 ?_
  refine x_iconst 1302 hK rfl rfl ?_
  refine x_iadd 1303 hK rfl rfl ?_
  refine x_scr 1304 41 hX rfl rfl rfl (by omega) (by omega) ?_
  refine x_aload_n 1305 hK rfl rfl l0 ?_
  refine x_iload 1307 hK rfl rfl l4 ?_
  refine x_iconst 1308 hK rfl rfl ?_
  refine x_iadd 1309 hK rfl rfl ?_
  refine x_scr 1310 41 hX rfl rfl rfl (by omega) (by omega) ?_
  refine x_callV 1313 hK hmono rfl rfl [.ref 171, .int (I ((xs (t + 1).toNat).toInt)), .int (I ((xs (t + 2).toNat).toInt))] [] rfl rfl (Nat.le_of_ble_eq_true rfl) (Nat.le_of_ble_eq_true rfl) rfl (s171g_ hG1) cl1 ?_
  rintro v2 h2 ⟨e2, re2, rfl, ee2, hI2, hC2⟩
  refine x_pop 1314 hK rfl rfl rfl ?_
  refine x_goto 1582 hK rfl rfl ?_
  exact hE _ _ _ _ l0 l1 l2 l3 l4 lo (hI2.mono (by omega)) hC2 (by omega) (by omega)
set_option maxRecDepth 8000 in
theorem lc42 (hK : CLO (CLd SPt 310) ac9L_law (some .boolean) lwQ K) (hX : ∀ (pc : Nat) (ls : List (Nat × Value)) (st : List Value) (h : aH) (bc bs : Nat), lwXR Lx xs K pc ls st h bc bs → K pc ls st h bc bs) {t b : Int} {h : aH} {ls : List (Nat × Value)} {bc bs : Nat} (ht : 0 ≤ t ∧ t + 5 ≤ (Lx : Int)) (hL : Lx ≤ 2560) (hI : INV sh b h) (hC : CR h) (hb : b ≤ 320000) (l0 : lk ls 0 = some (.ref 1000006)) (l1 : lk ls 1 = some (.ref 0)) (l2 : lk ls 2 = some (.ref 171)) (l3 : lk ls 3 = some (.ref 201)) (l4 : lk ls 4 = some (.int (I t))) (lo : lok ls = true) (hbc : 1 ≤ bc) (hbs : 6 ≤ bs)
    (hE : ∀ (ls' : List (Nat × Value)) (h' : aH) (bc' bs' : Nat), lk ls' 0 = some (.ref 1000006) → lk ls' 1 = some (.ref 0) → lk ls' 2 = some (.ref 171) → lk ls' 3 = some (.ref 201) → lk ls' 4 = some (.int (I t)) → lok ls' = true → INV sh (b + 600) h' → CR h' → bc ≤ bc' + 1 → bs ≤ bs' + 6 → K 1582 ls' [] h' bc' bs') : K 1317 ls [] h bc bs := by
  have hK := sub_K hK 42 (S := aS42) rfl
  have hmono := MONO_CLd SPt_mono 310
  refine x_aload_n 1318 hK rfl rfl l1 ?_
  refine x_aload_n 1319 hK rfl rfl l0 ?_
  refine x_iload 1321 hK rfl rfl l4 ?_
  refine x_iconst 1322 hK rfl rfl ?_
  refine x_iadd 1323 hK rfl rfl ?_
  refine x_scr 1324 42 hX rfl rfl rfl (by omega) (by omega) ?_
  refine x_aload_n 1325 hK rfl rfl l0 ?_
  refine x_iload 1327 hK rfl rfl l4 ?_
  refine x_iconst 1328 hK rfl rfl ?_
  refine x_iadd 1329 hK rfl rfl ?_
  refine x_scr 1330 42 hX rfl rfl rfl (by omega) (by omega) ?_
  refine x_aload_n 1331 hK rfl rfl l0 ?_
  refine x_iload 1333 hK rfl rfl l4 ?_
  refine x_iconst 1334 hK rfl rfl ?_
  refine x_iadd 1335 hK rfl rfl ?_
  refine x_scr 1336 42 hX rfl rfl rfl (by omega) (by omega) ?_
  refine x_callV 1339 hK hmono rfl rfl [.ref 0, .int (I ((xs (t + 1).toNat).toInt)), .int (I ((xs (t + 2).toNat).toInt)), .int (I ((xs (t + 3).toNat).toInt))] [] rfl rfl (Nat.le_of_ble_eq_true rfl) (Nat.le_of_ble_eq_true rfl) rfl (s0_ hI) (pr_mutiny hI hC hb (r_I _) (r_I _) (r_I _)) ?_
  rintro v1 h1 ⟨e1, re1, rfl, hG1, cl1⟩
  refine x_pop 1340 hK rfl rfl rfl ?_
  refine x_aload_n 1341 hK rfl rfl l2 ?_
  refine x_aload_n 1342 hK rfl rfl l0 ?_
  refine x_iload 1344 hK rfl rfl l4 ?_
  refine x_iconst 1345 hK rfl rfl ?_
  refine x_iadd 1346 hK rfl rfl ?_
  refine x_scr 1347 42 hX rfl rfl rfl (by omega) (by omega) ?_
  refine x_aload_n 1348 hK rfl rfl l0 ?_
  refine x_iload 1350 hK rfl rfl l4 ?_
  refine x_iconst 1351 hK rfl rfl ?_
  refine x_iadd 1352 hK rfl rfl ?_
  refine x_scr 1353 42 hX rfl rfl rfl (by omega) (by omega) ?_
  refine x_aload_n 1354 hK rfl rfl l0 ?_
  refine x_iload 1356 hK rfl rfl l4 ?_
  refine x_iconst 1357 hK rfl rfl ?_
  refine x_iadd 1358 hK rfl rfl ?_
  refine x_scr 1359 42 hX rfl rfl rfl (by omega) (by omega) ?_
  refine x_callV 1362 hK hmono rfl rfl [.ref 171, .int (I ((xs (t + 1).toNat).toInt)), .int (I ((xs (t + 2).toNat).toInt)), .int (I ((xs (t + 3).toNat).toInt))] [] rfl rfl (Nat.le_of_ble_eq_true rfl) (Nat.le_of_ble_eq_true rfl) rfl (s171g_ hG1) cl1 ?_
  rintro v2 h2 ⟨e2, re2, rfl, ee2, hI2, hC2⟩
  refine x_pop 1363 hK rfl rfl rfl ?_
  refine x_goto 1582 hK rfl rfl ?_
  exact hE _ _ _ _ l0 l1 l2 l3 l4 lo (hI2.mono (by omega)) hC2 (by omega) (by omega)
set_option maxRecDepth 8000 in
theorem lc43 (hK : CLO (CLd SPt 310) ac9L_law (some .boolean) lwQ K) (hX : ∀ (pc : Nat) (ls : List (Nat × Value)) (st : List Value) (h : aH) (bc bs : Nat), lwXR Lx xs K pc ls st h bc bs → K pc ls st h bc bs) {t b : Int} {h : aH} {ls : List (Nat × Value)} {bc bs : Nat} (ht : 0 ≤ t ∧ t + 5 ≤ (Lx : Int)) (hL : Lx ≤ 2560) (hI : INV sh b h) (hC : CR h) (hb : b ≤ 320000) (l0 : lk ls 0 = some (.ref 1000006)) (l1 : lk ls 1 = some (.ref 0)) (l2 : lk ls 2 = some (.ref 171)) (l3 : lk ls 3 = some (.ref 201)) (l4 : lk ls 4 = some (.int (I t))) (lo : lok ls = true) (hbc : 1 ≤ bc) (hbs : 6 ≤ bs)
    (hE : ∀ (ls' : List (Nat × Value)) (h' : aH) (bc' bs' : Nat), lk ls' 0 = some (.ref 1000006) → lk ls' 1 = some (.ref 0) → lk ls' 2 = some (.ref 171) → lk ls' 3 = some (.ref 201) → lk ls' 4 = some (.int (I t)) → lok ls' = true → INV sh (b + 600) h' → CR h' → bc ≤ bc' + 1 → bs ≤ bs' + 6 → K 1582 ls' [] h' bc' bs') : K 1366 ls [] h bc bs := by
  have hK := sub_K hK 43 (S := aS43) rfl
  have hmono := MONO_CLd SPt_mono 310
  refine x_aload_n 1367 hK rfl rfl l1 ?_
  refine x_aload_n 1368 hK rfl rfl l0 ?_
  refine x_iload 1370 hK rfl rfl l4 ?_
  refine x_iconst 1371 hK rfl rfl ?_
  refine x_iadd 1372 hK rfl rfl ?_
  refine x_scr 1373 43 hX rfl rfl rfl (by omega) (by omega) ?_
  refine x_aload_n 1374 hK rfl rfl l0 ?_
  refine x_iload 1376 hK rfl rfl l4 ?_
  refine x_iconst 1377 hK rfl rfl ?_
  refine x_iadd 1378 hK rfl rfl ?_
  refine x_scr 1379 43 hX rfl rfl rfl (by omega) (by omega) ?_
  refine x_aload_n 1380 hK rfl rfl l0 ?_
  refine x_iload 1382 hK rfl rfl l4 ?_
  refine x_iconst 1383 hK rfl rfl ?_
  refine x_iadd 1384 hK rfl rfl ?_
  refine x_scr 1385 43 hX rfl rfl rfl (by omega) (by omega) ?_
  refine x_callV 1388 hK hmono rfl rfl [.ref 0, .int (I ((xs (t + 1).toNat).toInt)), .int (I ((xs (t + 2).toNat).toInt)), .int (I ((xs (t + 3).toNat).toInt))] [] rfl rfl (Nat.le_of_ble_eq_true rfl) (Nat.le_of_ble_eq_true rfl) rfl (s0_ hI) (pr_chance hI hC hb (r_I _) (r_I _) (r_I _)) ?_
  rintro v1 h1 ⟨e1, re1, rfl, hG1, cl1⟩
  refine x_pop 1389 hK rfl rfl rfl ?_
  refine x_aload_n 1390 hK rfl rfl l2 ?_
  refine x_aload_n 1391 hK rfl rfl l0 ?_
  refine x_iload 1393 hK rfl rfl l4 ?_
  refine x_iconst 1394 hK rfl rfl ?_
  refine x_iadd 1395 hK rfl rfl ?_
  refine x_scr 1396 43 hX rfl rfl rfl (by omega) (by omega) ?_
  refine x_aload_n 1397 hK rfl rfl l0 ?_
  refine x_iload 1399 hK rfl rfl l4 ?_
  refine x_iconst 1400 hK rfl rfl ?_
  refine x_iadd 1401 hK rfl rfl ?_
  refine x_scr 1402 43 hX rfl rfl rfl (by omega) (by omega) ?_
  refine x_aload_n 1403 hK rfl rfl l0 ?_
  refine x_iload 1405 hK rfl rfl l4 ?_
  refine x_iconst 1406 hK rfl rfl ?_
  refine x_iadd 1407 hK rfl rfl ?_
  refine x_scr 1408 43 hX rfl rfl rfl (by omega) (by omega) ?_
  refine x_callV 1411 hK hmono rfl rfl [.ref 171, .int (I ((xs (t + 1).toNat).toInt)), .int (I ((xs (t + 2).toNat).toInt)), .int (I ((xs (t + 3).toNat).toInt))] [] rfl rfl (Nat.le_of_ble_eq_true rfl) (Nat.le_of_ble_eq_true rfl) rfl (s171g_ hG1) cl1 ?_
  rintro v2 h2 ⟨e2, re2, rfl, ee2, hI2, hC2⟩
  refine x_pop 1412 hK rfl rfl rfl ?_
  refine x_goto 1582 hK rfl rfl ?_
  exact hE _ _ _ _ l0 l1 l2 l3 l4 lo (hI2.mono (by omega)) hC2 (by omega) (by omega)
set_option maxRecDepth 8000 in
theorem lc44 (hK : CLO (CLd SPt 310) ac9L_law (some .boolean) lwQ K) (hX : ∀ (pc : Nat) (ls : List (Nat × Value)) (st : List Value) (h : aH) (bc bs : Nat), lwXR Lx xs K pc ls st h bc bs → K pc ls st h bc bs) {t b : Int} {h : aH} {ls : List (Nat × Value)} {bc bs : Nat} (ht : 0 ≤ t ∧ t + 5 ≤ (Lx : Int)) (hL : Lx ≤ 2560) (hI : INV sh b h) (hC : CR h) (hb : b ≤ 320000) (l0 : lk ls 0 = some (.ref 1000006)) (l1 : lk ls 1 = some (.ref 0)) (l2 : lk ls 2 = some (.ref 171)) (l3 : lk ls 3 = some (.ref 201)) (l4 : lk ls 4 = some (.int (I t))) (lo : lok ls = true) (hbc : 1 ≤ bc) (hbs : 6 ≤ bs)
    (hE : ∀ (ls' : List (Nat × Value)) (h' : aH) (bc' bs' : Nat), lk ls' 0 = some (.ref 1000006) → lk ls' 1 = some (.ref 0) → lk ls' 2 = some (.ref 171) → lk ls' 3 = some (.ref 201) → lk ls' 4 = some (.int (I t)) → lok ls' = true → INV sh (b + 600) h' → CR h' → bc ≤ bc' + 1 → bs ≤ bs' + 6 → K 1582 ls' [] h' bc' bs') : K 1415 ls [] h bc bs := by
  have hK := sub_K hK 44 (S := aS44) rfl
  have hmono := MONO_CLd SPt_mono 310
  refine x_aload_n 1416 hK rfl rfl l1 ?_
  refine x_aload_n 1417 hK rfl rfl l0 ?_
  refine x_iload 1419 hK rfl rfl l4 ?_
  refine x_iconst 1420 hK rfl rfl ?_
  refine x_iadd 1421 hK rfl rfl ?_
  refine x_scr 1422 44 hX rfl rfl rfl (by omega) (by omega) ?_
  refine x_aload_n 1423 hK rfl rfl l0 ?_
  refine x_iload 1425 hK rfl rfl l4 ?_
  refine x_iconst 1426 hK rfl rfl ?_
  refine x_iadd 1427 hK rfl rfl ?_
  refine x_scr 1428 44 hX rfl rfl rfl (by omega) (by omega) ?_
  refine x_callV 1431 hK hmono rfl rfl [.ref 0, .int (I ((xs (t + 1).toNat).toInt)), .int (I ((xs (t + 2).toNat).toInt))] [] rfl rfl (Nat.le_of_ble_eq_true rfl) (Nat.le_of_ble_eq_true rfl) rfl (s0_ hI) (pr_voyages hI hC hb (r_I _) (r_I _)) ?_
  rintro v1 h1 ⟨e1, re1, rfl, hG1, cl1⟩
  refine x_pop 1432 hK rfl rfl rfl ?_
  refine x_aload_n 1433 hK rfl rfl l2 ?_
  refine x_aload_n 1434 hK rfl rfl l0 ?_
  refine x_iload 1436 hK rfl rfl l4 ?_
  refine x_iconst 1437 hK rfl rfl ?_
  refine x_iadd 1438 hK rfl rfl ?_
  refine x_scr 1439 44 hX rfl rfl rfl (by omega) (by omega) ?_
  refine x_aload_n 1440 hK rfl rfl l0 ?_
  refine x_iload 1442 hK rfl rfl l4 ?_
  refine x_iconst 1443 hK rfl rfl ?_
  refine x_iadd 1444 hK rfl rfl ?_
  refine x_scr 1445 44 hX rfl rfl rfl (by omega) (by omega) ?_
  refine x_callV 1448 hK hmono rfl rfl [.ref 171, .int (I ((xs (t + 1).toNat).toInt)), .int (I ((xs (t + 2).toNat).toInt))] [] rfl rfl (Nat.le_of_ble_eq_true rfl) (Nat.le_of_ble_eq_true rfl) rfl (s171g_ hG1) cl1 ?_
  rintro v2 h2 ⟨e2, re2, rfl, ee2, hI2, hC2⟩
  refine x_pop 1449 hK rfl rfl rfl ?_
  refine x_goto 1582 hK rfl rfl ?_
  exact hE _ _ _ _ l0 l1 l2 l3 l4 lo (hI2.mono (by omega)) hC2 (by omega) (by omega)
set_option maxRecDepth 8000 in
theorem lc45 (hK : CLO (CLd SPt 310) ac9L_law (some .boolean) lwQ K) (hX : ∀ (pc : Nat) (ls : List (Nat × Value)) (st : List Value) (h : aH) (bc bs : Nat), lwXR Lx xs K pc ls st h bc bs → K pc ls st h bc bs) {t b : Int} {h : aH} {ls : List (Nat × Value)} {bc bs : Nat} (ht : 0 ≤ t ∧ t + 5 ≤ (Lx : Int)) (hL : Lx ≤ 2560) (hI : INV sh b h) (hC : CR h) (hb : b ≤ 320000) (l0 : lk ls 0 = some (.ref 1000006)) (l1 : lk ls 1 = some (.ref 0)) (l2 : lk ls 2 = some (.ref 171)) (l3 : lk ls 3 = some (.ref 201)) (l4 : lk ls 4 = some (.int (I t))) (lo : lok ls = true) (hbc : 1 ≤ bc) (hbs : 6 ≤ bs)
    (hE : ∀ (ls' : List (Nat × Value)) (h' : aH) (bc' bs' : Nat), lk ls' 0 = some (.ref 1000006) → lk ls' 1 = some (.ref 0) → lk ls' 2 = some (.ref 171) → lk ls' 3 = some (.ref 201) → lk ls' 4 = some (.int (I t)) → lok ls' = true → INV sh (b + 600) h' → CR h' → bc ≤ bc' + 1 → bs ≤ bs' + 6 → K 1582 ls' [] h' bc' bs') : K 1452 ls [] h bc bs := by
  have hK := sub_K hK 45 (S := aS45) rfl
  have hmono := MONO_CLd SPt_mono 310
  refine x_aload_n 1453 hK rfl rfl l1 ?_
  refine x_aload_n 1454 hK rfl rfl l0 ?_
  refine x_iload 1456 hK rfl rfl l4 ?_
  refine x_iconst 1457 hK rfl rfl ?_
  refine x_iadd 1458 hK rfl rfl ?_
  refine x_scr 1459 45 hX rfl rfl rfl (by omega) (by omega) ?_
  refine x_callV 1462 hK hmono rfl rfl [.ref 0, .int (I ((xs (t + 1).toNat).toInt))] [] rfl rfl (Nat.le_of_ble_eq_true rfl) (Nat.le_of_ble_eq_true rfl) rfl (s0_ hI) (pr_keep hI hC hb (r_I _)) ?_
  rintro v1 h1 ⟨e1, re1, rfl, hG1, cl1⟩
  refine x_pop 1463 hK rfl rfl rfl ?_
  refine x_aload_n 1464 hK rfl rfl l2 ?_
  refine x_aload_n 1465 hK rfl rfl l0 ?_
  refine x_iload 1467 hK rfl rfl l4 ?_
  refine x_iconst 1468 hK rfl rfl ?_
  refine x_iadd 1469 hK rfl rfl ?_
  refine x_scr 1470 45 hX rfl rfl rfl (by omega) (by omega) ?_
  refine x_callV 1473 hK hmono rfl rfl [.ref 171, .int (I ((xs (t + 1).toNat).toInt))] [] rfl rfl (Nat.le_of_ble_eq_true rfl) (Nat.le_of_ble_eq_true rfl) rfl (s171g_ hG1) cl1 ?_
  rintro v2 h2 ⟨e2, re2, rfl, ee2, hI2, hC2⟩
  refine x_pop 1474 hK rfl rfl rfl ?_
  refine x_goto 1582 hK rfl rfl ?_
  exact hE _ _ _ _ l0 l1 l2 l3 l4 lo (hI2.mono (by omega)) hC2 (by omega) (by omega)
set_option maxRecDepth 8000 in
theorem lc46 (hK : CLO (CLd SPt 310) ac9L_law (some .boolean) lwQ K) (hX : ∀ (pc : Nat) (ls : List (Nat × Value)) (st : List Value) (h : aH) (bc bs : Nat), lwXR Lx xs K pc ls st h bc bs → K pc ls st h bc bs) {t b : Int} {h : aH} {ls : List (Nat × Value)} {bc bs : Nat} (ht : 0 ≤ t ∧ t + 5 ≤ (Lx : Int)) (hL : Lx ≤ 2560) (hI : INV sh b h) (hC : CR h) (hb : b ≤ 320000) (l0 : lk ls 0 = some (.ref 1000006)) (l1 : lk ls 1 = some (.ref 0)) (l2 : lk ls 2 = some (.ref 171)) (l3 : lk ls 3 = some (.ref 201)) (l4 : lk ls 4 = some (.int (I t))) (lo : lok ls = true) (hbc : 1 ≤ bc) (hbs : 6 ≤ bs)
    (hE : ∀ (ls' : List (Nat × Value)) (h' : aH) (bc' bs' : Nat), lk ls' 0 = some (.ref 1000006) → lk ls' 1 = some (.ref 0) → lk ls' 2 = some (.ref 171) → lk ls' 3 = some (.ref 201) → lk ls' 4 = some (.int (I t)) → lok ls' = true → INV sh (b + 600) h' → CR h' → bc ≤ bc' + 1 → bs ≤ bs' + 6 → K 1582 ls' [] h' bc' bs') : K 1477 ls [] h bc bs := by
  have hK := sub_K hK 46 (S := aS46) rfl
  have hmono := MONO_CLd SPt_mono 310
  refine x_aload_n 1478 hK rfl rfl l1 ?_
  refine x_aload_n 1479 hK rfl rfl l0 ?_
  refine x_iload 1481 hK rfl rfl l4 ?_
  refine x_iconst 1482 hK rfl rfl ?_
  refine x_iadd 1483 hK rfl rfl ?_
  refine x_scr 1484 46 hX rfl rfl rfl (by omega) (by omega) ?_
  refine x_callV 1487 hK hmono rfl rfl [.ref 0, .int (I ((xs (t + 1).toNat).toInt))] [] rfl rfl (Nat.le_of_ble_eq_true rfl) (Nat.le_of_ble_eq_true rfl) rfl (s0_ hI) (pr_again hI hC hb (r_I _)) ?_
  rintro v1 h1 ⟨e1, re1, rfl, hG1, cl1⟩
  refine x_pop 1488 hK rfl rfl rfl ?_
  refine x_aload_n 1489 hK rfl rfl l2 ?_
  refine x_aload_n 1490 hK rfl rfl l0 ?_
  refine x_iload 1492 hK rfl rfl l4 ?_
  refine x_iconst 1493 hK rfl rfl ?_
  refine x_iadd 1494 hK rfl rfl ?_
  refine x_scr 1495 46 hX rfl rfl rfl (by omega) (by omega) ?_
  refine x_callV 1498 hK hmono rfl rfl [.ref 171, .int (I ((xs (t + 1).toNat).toInt))] [] rfl rfl (Nat.le_of_ble_eq_true rfl) (Nat.le_of_ble_eq_true rfl) rfl (s171g_ hG1) cl1 ?_
  rintro v2 h2 ⟨e2, re2, rfl, ee2, hI2, hC2⟩
  refine x_pop 1499 hK rfl rfl rfl ?_
  refine x_goto 1582 hK rfl rfl ?_
  exact hE _ _ _ _ l0 l1 l2 l3 l4 lo (hI2.mono (by omega)) hC2 (by omega) (by omega)
set_option maxRecDepth 8000 in
theorem lc47 (hK : CLO (CLd SPt 310) ac9L_law (some .boolean) lwQ K) (hX : ∀ (pc : Nat) (ls : List (Nat × Value)) (st : List Value) (h : aH) (bc bs : Nat), lwXR Lx xs K pc ls st h bc bs → K pc ls st h bc bs) {t b : Int} {h : aH} {ls : List (Nat × Value)} {bc bs : Nat} (ht : 0 ≤ t ∧ t + 5 ≤ (Lx : Int)) (hL : Lx ≤ 2560) (hI : INV sh b h) (hC : CR h) (hb : b ≤ 320000) (l0 : lk ls 0 = some (.ref 1000006)) (l1 : lk ls 1 = some (.ref 0)) (l2 : lk ls 2 = some (.ref 171)) (l3 : lk ls 3 = some (.ref 201)) (l4 : lk ls 4 = some (.int (I t))) (lo : lok ls = true) (hbc : 1 ≤ bc) (hbs : 6 ≤ bs)
    (hE : ∀ (ls' : List (Nat × Value)) (h' : aH) (bc' bs' : Nat), lk ls' 0 = some (.ref 1000006) → lk ls' 1 = some (.ref 0) → lk ls' 2 = some (.ref 171) → lk ls' 3 = some (.ref 201) → lk ls' 4 = some (.int (I t)) → lok ls' = true → INV sh (b + 600) h' → CR h' → bc ≤ bc' + 1 → bs ≤ bs' + 6 → K 1582 ls' [] h' bc' bs') : K 1502 ls [] h bc bs := by
  have hK := sub_K hK 47 (S := aS47) rfl
  have hmono := MONO_CLd SPt_mono 310
  refine x_aload_n 1503 hK rfl rfl l1 ?_
  refine x_aload_n 1504 hK rfl rfl l0 ?_
  refine x_iload 1506 hK rfl rfl l4 ?_
  refine x_iconst 1507 hK rfl rfl ?_
  refine x_iadd 1508 hK rfl rfl ?_
  refine x_scr 1509 47 hX rfl rfl rfl (by omega) (by omega) ?_
  refine x_callV 1512 hK hmono rfl rfl [.ref 0, .int (I ((xs (t + 1).toNat).toInt))] [] rfl rfl (Nat.le_of_ble_eq_true rfl) (Nat.le_of_ble_eq_true rfl) rfl (s0_ hI) (pr_count hI hC hb (r_I _)) ?_
  rintro v1 h1 ⟨e1, re1, rfl, hG1, cl1⟩
  refine x_pop 1513 hK rfl rfl rfl ?_
  refine x_aload_n 1514 hK rfl rfl l2 ?_
  refine x_aload_n 1515 hK rfl rfl l0 ?_
  refine x_iload 1517 hK rfl rfl l4 ?_
  refine x_iconst 1518 hK rfl rfl ?_
  refine x_iadd 1519 hK rfl rfl ?_
  refine x_scr 1520 47 hX rfl rfl rfl (by omega) (by omega) ?_
  refine x_callV 1523 hK hmono rfl rfl [.ref 171, .int (I ((xs (t + 1).toNat).toInt))] [] rfl rfl (Nat.le_of_ble_eq_true rfl) (Nat.le_of_ble_eq_true rfl) rfl (s171g_ hG1) cl1 ?_
  rintro v2 h2 ⟨e2, re2, rfl, ee2, hI2, hC2⟩
  refine x_pop 1524 hK rfl rfl rfl ?_
  refine x_goto 1582 hK rfl rfl ?_
  exact hE _ _ _ _ l0 l1 l2 l3 l4 lo (hI2.mono (by omega)) hC2 (by omega) (by omega)
set_option maxRecDepth 8000 in
theorem lc48 (hK : CLO (CLd SPt 310) ac9L_law (some .boolean) lwQ K) (hX : ∀ (pc : Nat) (ls : List (Nat × Value)) (st : List Value) (h : aH) (bc bs : Nat), lwXR Lx xs K pc ls st h bc bs → K pc ls st h bc bs) {t b : Int} {h : aH} {ls : List (Nat × Value)} {bc bs : Nat} (ht : 0 ≤ t ∧ t + 5 ≤ (Lx : Int)) (hL : Lx ≤ 2560) (hI : INV sh b h) (hC : CR h) (hb : b ≤ 320000) (l0 : lk ls 0 = some (.ref 1000006)) (l1 : lk ls 1 = some (.ref 0)) (l2 : lk ls 2 = some (.ref 171)) (l3 : lk ls 3 = some (.ref 201)) (l4 : lk ls 4 = some (.int (I t))) (lo : lok ls = true) (hbc : 1 ≤ bc) (hbs : 6 ≤ bs)
    (hE : ∀ (ls' : List (Nat × Value)) (h' : aH) (bc' bs' : Nat), lk ls' 0 = some (.ref 1000006) → lk ls' 1 = some (.ref 0) → lk ls' 2 = some (.ref 171) → lk ls' 3 = some (.ref 201) → lk ls' 4 = some (.int (I t)) → lok ls' = true → INV sh (b + 600) h' → CR h' → bc ≤ bc' + 1 → bs ≤ bs' + 6 → K 1582 ls' [] h' bc' bs') : K 1527 ls [] h bc bs := by
  have hK := sub_K hK 48 (S := aS48) rfl
  have hmono := MONO_CLd SPt_mono 310
  refine x_aload_n 1528 hK rfl rfl l1 ?_
  refine x_aload_n 1529 hK rfl rfl l0 ?_
  refine x_iload 1531 hK rfl rfl l4 ?_
  refine x_iconst 1532 hK rfl rfl ?_
  refine x_iadd 1533 hK rfl rfl ?_
  refine x_scr 1534 48 hX rfl rfl rfl (by omega) (by omega) ?_
  refine x_aload_n 1535 hK rfl rfl l3 ?_
  refine hX _ _ _ _ _ _ (Or.inr (Or.inr (Or.inr (Or.inr (Or.inr (Or.inr (⟨rfl, sh, _, hI.1, s201_ hI, r_I _, rfl, lok_okv lo (sl_ hI), hbc, hbs, fun v1 h1 hw => ?_⟩)))))))
  rcases hw with ⟨hR1, rfl, rfl⟩ | ⟨w1, hR1, rfl, rfl⟩
  · refine x_istore 1540 hK rfl rfl _ rfl ?_
    have m2x0 := lk1_n (i := 5) (v := .int (I (1))) l0 (by decide) (Or.inl rfl)
    have m2x1 := lk1_n (i := 5) (v := .int (I (1))) l1 (by decide) (Or.inl rfl)
    have m2x2 := lk1_n (i := 5) (v := .int (I (1))) l2 (by decide) (Or.inl rfl)
    have m2x3 := lk1_n (i := 5) (v := .int (I (1))) l3 (by decide) (Or.inl rfl)
    have m2x4 := lk1_n (i := 5) (v := .int (I (1))) l4 (by decide) (Or.inl rfl)
    have m2x5 : lk (so1 ls 5 (.int (I (1)))) 5 = some (.int (I (1))) := lk1_s
    have lo2 := lok_so1 (i := 5) (v := .int (I (1))) lo rfl
    refine x_aload_n 1541 hK rfl rfl m2x2 ?_
    refine x_aload_n 1542 hK rfl rfl m2x0 ?_
    refine x_iload 1544 hK rfl rfl m2x4 ?_
    refine x_iconst 1545 hK rfl rfl ?_
    refine x_iadd 1546 hK rfl rfl ?_
    refine x_scr 1547 48 hX rfl rfl rfl (by omega) (by omega) ?_
    refine x_callV 1550 hK hmono rfl rfl [.ref 171, .int (I ((xs (t + 1).toNat).toInt))] [] rfl rfl (Nat.le_of_ble_eq_true rfl) (Nat.le_of_ble_eq_true rfl) rfl (s171_ hI) (pw_row hI hC (r_I _) hR1) ?_
    rintro v3 h3 ⟨e3, re3, rfl, tn3, tv3, hI3, hC3, hj3⟩
    have t3 := tn3 rfl
    refine x_lstore 1552 hK rfl rfl _ rfl ?_
    have m4x0 := lk2_n (i := 6) (v := .long (J (e3))) m2x0 (by decide) (by decide) (Or.inl rfl)
    have m4x1 := lk2_n (i := 6) (v := .long (J (e3))) m2x1 (by decide) (by decide) (Or.inl rfl)
    have m4x2 := lk2_n (i := 6) (v := .long (J (e3))) m2x2 (by decide) (by decide) (Or.inl rfl)
    have m4x3 := lk2_n (i := 6) (v := .long (J (e3))) m2x3 (by decide) (by decide) (Or.inl rfl)
    have m4x4 := lk2_n (i := 6) (v := .long (J (e3))) m2x4 (by decide) (by decide) (Or.inl rfl)
    have m4x5 := lk2_n (i := 6) (v := .long (J (e3))) m2x5 (by decide) (by decide) (Or.inl rfl)
    have m4x6 : lk (so2 (so1 ls 5 (.int (I (1)))) 6 (.long (J (e3)))) 6 = some (.long (J (e3))) := lk2_s
    have lo4 := lok_so2 (i := 6) (v := .long (J (e3))) lo2 rfl
    refine x_aload_n 1553 hK rfl rfl m4x2 ?_
    refine x_callV 1556 hK hmono rfl rfl [.ref 171] [] rfl rfl (Nat.le_of_ble_eq_true rfl) (Nat.le_of_ble_eq_true rfl) rfl (s171_ hI3) (CLd_le (Nat.le_of_ble_eq_true rfl) (ctX11_thrown SPt_mono hI3.1)) ?_
    rintro v5 h5 ⟨rfl, rfl⟩
    rw [t3]
    refine x_iload 1558 hK rfl rfl m4x5 ?_
    refine x_if_icmp_eq 1563 1561 hK rfl rfl rfl (by omega) (by omega) (fun _ => ?_) (fun c9 => absurd (by decide) c9)
    refine x_iload 1565 hK rfl rfl m4x5 ?_
    refine x_if_ne 1579 1568 hK rfl rfl rfl (by omega) (fun _ => ?_) (fun c9 => absurd (by decide) c9)
    refine x_goto 1582 hK rfl rfl ?_
    exact hE _ _ _ _ m4x0 m4x1 m4x2 m4x3 m4x4 lo4 (hI3.mono (by omega)) hC3 (by omega) (by omega)
  · have hI1 := INV_J (a := 201) (k := 0) (v := J w1) hI
    have hC1 := CR_J (v := J w1) hC
    refine x_istore 1540 hK rfl rfl _ rfl ?_
    have m6x0 := lk1_n (i := 5) (v := .int (I (0))) l0 (by decide) (Or.inl rfl)
    have m6x1 := lk1_n (i := 5) (v := .int (I (0))) l1 (by decide) (Or.inl rfl)
    have m6x2 := lk1_n (i := 5) (v := .int (I (0))) l2 (by decide) (Or.inl rfl)
    have m6x3 := lk1_n (i := 5) (v := .int (I (0))) l3 (by decide) (Or.inl rfl)
    have m6x4 := lk1_n (i := 5) (v := .int (I (0))) l4 (by decide) (Or.inl rfl)
    have m6x5 : lk (so1 ls 5 (.int (I (0)))) 5 = some (.int (I (0))) := lk1_s
    have lo6 := lok_so1 (i := 5) (v := .int (I (0))) lo rfl
    refine x_aload_n 1541 hK rfl rfl m6x2 ?_
    refine x_aload_n 1542 hK rfl rfl m6x0 ?_
    refine x_iload 1544 hK rfl rfl m6x4 ?_
    refine x_iconst 1545 hK rfl rfl ?_
    refine x_iadd 1546 hK rfl rfl ?_
    refine x_scr 1547 48 hX rfl rfl rfl (by omega) (by omega) ?_
    refine x_callV 1550 hK hmono rfl rfl [.ref 171, .int (I ((xs (t + 1).toNat).toInt))] [] rfl rfl (Nat.le_of_ble_eq_true rfl) (Nat.le_of_ble_eq_true rfl) rfl (s171_ hI1) (pw_row hI1 hC1 (r_I _) (rowR_J hI.1 hR1)) ?_
    rintro v7 h7 ⟨e7, re7, rfl, tn7, tv7, hI7, hC7, hj7⟩
    obtain ⟨t7, ev7⟩ := tv7 _ rfl
    have q7 : r64 e7 := by omega
    have jj7 : (aJ h7 201 0).toInt = e7 := hj7.trans (by rw [ev7]; exact gj_same q7)
    refine x_lstore 1552 hK rfl rfl _ rfl ?_
    have m8x0 := lk2_n (i := 6) (v := .long (J (e7))) m6x0 (by decide) (by decide) (Or.inl rfl)
    have m8x1 := lk2_n (i := 6) (v := .long (J (e7))) m6x1 (by decide) (by decide) (Or.inl rfl)
    have m8x2 := lk2_n (i := 6) (v := .long (J (e7))) m6x2 (by decide) (by decide) (Or.inl rfl)
    have m8x3 := lk2_n (i := 6) (v := .long (J (e7))) m6x3 (by decide) (by decide) (Or.inl rfl)
    have m8x4 := lk2_n (i := 6) (v := .long (J (e7))) m6x4 (by decide) (by decide) (Or.inl rfl)
    have m8x5 := lk2_n (i := 6) (v := .long (J (e7))) m6x5 (by decide) (by decide) (Or.inl rfl)
    have m8x6 : lk (so2 (so1 ls 5 (.int (I (0)))) 6 (.long (J (e7)))) 6 = some (.long (J (e7))) := lk2_s
    have lo8 := lok_so2 (i := 6) (v := .long (J (e7))) lo6 rfl
    refine x_aload_n 1553 hK rfl rfl m8x2 ?_
    refine x_callV 1556 hK hmono rfl rfl [.ref 171] [] rfl rfl (Nat.le_of_ble_eq_true rfl) (Nat.le_of_ble_eq_true rfl) rfl (s171_ hI7) (CLd_le (Nat.le_of_ble_eq_true rfl) (ctX11_thrown SPt_mono hI7.1)) ?_
    rintro v9 h9 ⟨rfl, rfl⟩
    rw [t7]
    refine x_iload 1558 hK rfl rfl m8x5 ?_
    refine x_if_icmp_eq 1563 1561 hK rfl rfl rfl (by omega) (by omega) (fun _ => ?_) (fun c9 => absurd (by decide) c9)
    refine x_iload 1565 hK rfl rfl m8x5 ?_
    refine x_if_ne 1579 1568 hK rfl rfl rfl (by omega) (fun c9 => absurd c9 (by decide)) (fun _ => ?_)
    refine x_aload_n 1569 hK rfl rfl m8x3 ?_
    refine x_iconst 1570 hK rfl rfl ?_
    refine x_laload (n := 1) 1571 hK rfl rfl (s201_ hI7) (by omega) (by omega) (by omega) ?_
    rw [show (0 : Int).toNat = 0 from rfl, jj7]
    refine x_lload 1573 hK rfl rfl m8x6 ?_
    refine x_lcmp 1574 hK rfl rfl q7 q7 ?_
    rw [if_neg (Int.lt_irrefl _), if_neg (Int.lt_irrefl _)]
    refine x_if_eq 1579 1577 hK rfl rfl rfl (by omega) (fun _ => ?_) (fun c9 => absurd (by decide) c9)
    refine x_goto 1582 hK rfl rfl ?_
    exact hE _ _ _ _ m8x0 m8x1 m8x2 m8x3 m8x4 lo8 (hI7.mono (by omega)) hC7 (by omega) (by omega)
set_option maxRecDepth 8000 in
set_option maxHeartbeats 2000000 in
theorem law_loop (hK : CLO (CLd SPt 310) ac9L_law (some .boolean) lwQ K) (hX : ∀ (pc : Nat) (ls : List (Nat × Value)) (st : List Value) (h : aH) (bc bs : Nat), lwXR Lx xs K pc ls st h bc bs → K pc ls st h bc bs) (hL : Lx ≤ 2560) : ∀ (n : Nat) (t b : Int) (h : aH) (ls : List (Nat × Value)) (bc bs : Nat), (Lx : Int) - t < 5 * n + 5 → 0 ≤ t → t ≤ Lx + 5 → b + 600 * n ≤ 310000 → n ≤ bc → 6 * n ≤ bs → INV sh b h → CR h → lk ls 0 = some (.ref 1000006) → lk ls 1 = some (.ref 0) → lk ls 2 = some (.ref 171) → lk ls 3 = some (.ref 201) → lk ls 4 = some (.int (I t)) → lok ls = true → K 23 ls [] h bc bs := by
  have hK0 := sub_K hK 0 (S := aS0) rfl
  have hKz := sub_K hK 49 (S := aS49) rfl
  intro n
  induction n with
  | zero =>
    intro t b h ls bc bs hn h0 h5 hb hbc hbs hI hC l0 l1 l2 l3 l4 lo
    refine x_iload 25 hK0 rfl rfl l4 ?_
    refine x_aload_n 26 hK0 rfl rfl l0 ?_
    refine x_slen 27 0 hX rfl rfl rfl ?_
    refine x_iconst 28 hK0 rfl rfl ?_
    refine x_isub 29 hK0 rfl rfl ?_
    refine x_if_icmp_gt 1588 32 hK0 rfl rfl rfl (by omega) (by omega) (fun c9 => ?_) (fun c9 => ?_)
    · refine x_iconst 1589 hKz rfl rfl ?_
      exact x_zret hKz rfl (Or.inr rfl) rfl
    · omega
  | succ n ih =>
    intro t b h ls bc bs hn h0 h5 hb hbc hbs hI hC l0 l1 l2 l3 l4 lo
    refine x_iload 25 hK0 rfl rfl l4 ?_
    refine x_aload_n 26 hK0 rfl rfl l0 ?_
    refine x_slen 27 0 hX rfl rfl rfl ?_
    refine x_iconst 28 hK0 rfl rfl ?_
    refine x_isub 29 hK0 rfl rfl ?_
    refine x_if_icmp_gt 1588 32 hK0 rfl rfl rfl (by omega) (by omega) (fun c9 => ?_) (fun c9 => ?_)
    · refine x_iconst 1589 hKz rfl rfl ?_
      exact x_zret hKz rfl (Or.inr rfl) rfl
    · have hs : 0 ≤ t ∧ t + 5 ≤ (Lx : Int) := by omega
      refine x_aload_n 33 hK0 rfl rfl l0 ?_
      refine x_iload 35 hK0 rfl rfl l4 ?_
      refine x_scr 36 0 hX rfl rfl rfl (by omega) (by omega) ?_
      refine x_bipush 38 hK0 rfl rfl rfl ?_
      refine x_iandX 39 hK0 rfl rfl (fun c rc => ?_)
      refine x_tsw hK0 rfl rc rfl ?_
      have hE : ∀ (ls' : List (Nat × Value)) (h' : aH) (bc' bs' : Nat), lk ls' 0 = some (.ref 1000006) → lk ls' 1 = some (.ref 0) → lk ls' 2 = some (.ref 171) → lk ls' 3 = some (.ref 201) → lk ls' 4 = some (.int (I t)) → lok ls' = true → INV sh (b + 600) h' → CR h' → bc ≤ bc' + 1 → bs ≤ bs' + 6 → K 1582 ls' [] h' bc' bs' := by
        intro ls' h' bc' bs' l0 l1 l2 l3 l4 lo hI' hC' hc hs'
        refine x_iinc 1585 hKz rfl rfl l4 _ rfl ?_
        refine x_goto 23 hKz rfl rfl ?_
        exact ih (t + 5) (b + 600) h' _ bc' bs' (by omega) (by omega) (by omega) (by omega) (by omega) (by omega) hI' hC' (lk1_n l0 (by decide) (Or.inl rfl)) (lk1_n l1 (by decide) (Or.inl rfl)) (lk1_n l2 (by decide) (Or.inl rfl)) (lk1_n l3 (by decide) (Or.inl rfl)) lk1_s (lok_so1 lo rfl)
      rcases (show c = 0 ∨ c = 1 ∨ c = 2 ∨ c = 3 ∨ c = 4 ∨ c = 5 ∨ c = 6 ∨ c = 7 ∨ c = 8 ∨ c = 9 ∨ c = 10 ∨ c = 11 ∨ c = 12 ∨ c = 13 ∨ c = 14 ∨ c = 15 ∨ c = 16 ∨ c = 17 ∨ c = 18 ∨ c = 19 ∨ c = 20 ∨ c = 21 ∨ c = 22 ∨ c = 23 ∨ c = 24 ∨ c = 25 ∨ c = 26 ∨ c = 27 ∨ c = 28 ∨ c = 29 ∨ c = 30 ∨ c = 31 ∨ c = 32 ∨ c = 33 ∨ c = 34 ∨ c = 35 ∨ c = 36 ∨ c = 37 ∨ c = 38 ∨ c = 39 ∨ c = 40 ∨ c = 41 ∨ c = 42 ∨ c = 43 ∨ c = 44 ∨ c = 45 ∨ c = 46 ∨ c = 47 ∨ (c < 0 ∨ 48 ≤ c) by omega) with rfl | rfl | rfl | rfl | rfl | rfl | rfl | rfl | rfl | rfl | rfl | rfl | rfl | rfl | rfl | rfl | rfl | rfl | rfl | rfl | rfl | rfl | rfl | rfl | rfl | rfl | rfl | rfl | rfl | rfl | rfl | rfl | rfl | rfl | rfl | rfl | rfl | rfl | rfl | rfl | rfl | rfl | rfl | rfl | rfl | rfl | rfl | rfl | hc9
      · exact lc1 hK hX hs hL hI hC (by omega) l0 l1 l2 l3 l4 lo (by omega) (by omega) hE
      · exact lc2 hK hX hs hL hI hC (by omega) l0 l1 l2 l3 l4 lo (by omega) (by omega) hE
      · exact lc3 hK hX hs hL hI hC (by omega) l0 l1 l2 l3 l4 lo (by omega) (by omega) hE
      · exact lc4 hK hX hs hL hI hC (by omega) l0 l1 l2 l3 l4 lo (by omega) (by omega) hE
      · exact lc5 hK hX hs hL hI hC (by omega) l0 l1 l2 l3 l4 lo (by omega) (by omega) hE
      · exact lc6 hK hX hs hL hI hC (by omega) l0 l1 l2 l3 l4 lo (by omega) (by omega) hE
      · exact lc7 hK hX hs hL hI hC (by omega) l0 l1 l2 l3 l4 lo (by omega) (by omega) hE
      · exact lc8 hK hX hs hL hI hC (by omega) l0 l1 l2 l3 l4 lo (by omega) (by omega) hE
      · exact lc9 hK hX hs hL hI hC (by omega) l0 l1 l2 l3 l4 lo (by omega) (by omega) hE
      · exact lc10 hK hX hs hL hI hC (by omega) l0 l1 l2 l3 l4 lo (by omega) (by omega) hE
      · exact lc11 hK hX hs hL hI hC (by omega) l0 l1 l2 l3 l4 lo (by omega) (by omega) hE
      · exact lc12 hK hX hs hL hI hC (by omega) l0 l1 l2 l3 l4 lo (by omega) (by omega) hE
      · exact lc13 hK hX hs hL hI hC (by omega) l0 l1 l2 l3 l4 lo (by omega) (by omega) hE
      · exact lc14 hK hX hs hL hI hC (by omega) l0 l1 l2 l3 l4 lo (by omega) (by omega) hE
      · exact lc15 hK hX hs hL hI hC (by omega) l0 l1 l2 l3 l4 lo (by omega) (by omega) hE
      · exact lc16 hK hX hs hL hI hC (by omega) l0 l1 l2 l3 l4 lo (by omega) (by omega) hE
      · exact lc17 hK hX hs hL hI hC (by omega) l0 l1 l2 l3 l4 lo (by omega) (by omega) hE
      · exact lc18 hK hX hs hL hI hC (by omega) l0 l1 l2 l3 l4 lo (by omega) (by omega) hE
      · exact lc19 hK hX hs hL hI hC (by omega) l0 l1 l2 l3 l4 lo (by omega) (by omega) hE
      · exact lc20 hK hX hs hL hI hC (by omega) l0 l1 l2 l3 l4 lo (by omega) (by omega) hE
      · exact lc21 hK hX hs hL hI hC (by omega) l0 l1 l2 l3 l4 lo (by omega) (by omega) hE
      · exact lc22 hK hX hs hL hI hC (by omega) l0 l1 l2 l3 l4 lo (by omega) (by omega) hE
      · exact lc23 hK hX hs hL hI hC (by omega) l0 l1 l2 l3 l4 lo (by omega) (by omega) hE
      · exact lc24 hK hX hs hL hI hC (by omega) l0 l1 l2 l3 l4 lo (by omega) (by omega) hE
      · exact lc25 hK hX hs hL hI hC (by omega) l0 l1 l2 l3 l4 lo (by omega) (by omega) hE
      · exact lc26 hK hX hs hL hI hC (by omega) l0 l1 l2 l3 l4 lo (by omega) (by omega) hE
      · exact lc27 hK hX hs hL hI hC (by omega) l0 l1 l2 l3 l4 lo (by omega) (by omega) hE
      · exact lc28 hK hX hs hL hI hC (by omega) l0 l1 l2 l3 l4 lo (by omega) (by omega) hE
      · exact lc29 hK hX hs hL hI hC (by omega) l0 l1 l2 l3 l4 lo (by omega) (by omega) hE
      · exact lc30 hK hX hs hL hI hC (by omega) l0 l1 l2 l3 l4 lo (by omega) (by omega) hE
      · exact lc31 hK hX hs hL hI hC (by omega) l0 l1 l2 l3 l4 lo (by omega) (by omega) hE
      · exact lc32 hK hX hs hL hI hC (by omega) l0 l1 l2 l3 l4 lo (by omega) (by omega) hE
      · exact lc33 hK hX hs hL hI hC (by omega) l0 l1 l2 l3 l4 lo (by omega) (by omega) hE
      · exact lc34 hK hX hs hL hI hC (by omega) l0 l1 l2 l3 l4 lo (by omega) (by omega) hE
      · exact lc35 hK hX hs hL hI hC (by omega) l0 l1 l2 l3 l4 lo (by omega) (by omega) hE
      · exact lc36 hK hX hs hL hI hC (by omega) l0 l1 l2 l3 l4 lo (by omega) (by omega) hE
      · exact lc37 hK hX hs hL hI hC (by omega) l0 l1 l2 l3 l4 lo (by omega) (by omega) hE
      · exact lc38 hK hX hs hL hI hC (by omega) l0 l1 l2 l3 l4 lo (by omega) (by omega) hE
      · exact lc39 hK hX hs hL hI hC (by omega) l0 l1 l2 l3 l4 lo (by omega) (by omega) hE
      · exact lc40 hK hX hs hL hI hC (by omega) l0 l1 l2 l3 l4 lo (by omega) (by omega) hE
      · exact lc41 hK hX hs hL hI hC (by omega) l0 l1 l2 l3 l4 lo (by omega) (by omega) hE
      · exact lc42 hK hX hs hL hI hC (by omega) l0 l1 l2 l3 l4 lo (by omega) (by omega) hE
      · exact lc43 hK hX hs hL hI hC (by omega) l0 l1 l2 l3 l4 lo (by omega) (by omega) hE
      · exact lc44 hK hX hs hL hI hC (by omega) l0 l1 l2 l3 l4 lo (by omega) (by omega) hE
      · exact lc45 hK hX hs hL hI hC (by omega) l0 l1 l2 l3 l4 lo (by omega) (by omega) hE
      · exact lc46 hK hX hs hL hI hC (by omega) l0 l1 l2 l3 l4 lo (by omega) (by omega) hE
      · exact lc47 hK hX hs hL hI hC (by omega) l0 l1 l2 l3 l4 lo (by omega) (by omega) hE
      · exact lc48 hK hX hs hL hI hC (by omega) l0 l1 l2 l3 l4 lo (by omega) (by omega) hE
      · rw [swI_d hc9]
        exact hE ls h bc bs l0 l1 l2 l3 l4 lo (hI.mono (by omega)) hC (by omega) (by omega)
end LAWR
