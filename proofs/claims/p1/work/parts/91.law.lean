/-! THE LAW'S RUN -/
def aS0 : AC := [(0, .new 8, 10, 0, 0), (3, .dup, 0, 0, 0), (4, .invokespecial 28, 61, 2, 1), (7, .astore_n 1, 0, 0, 0), (8, .new 29, 11, 0, 0), (11, .dup, 0, 0, 0), (12, .invokespecial 31, 139, 2, 1), (15, .astore_n 2, 0, 0, 0), (16, .iconst 1, 0, 0, 0), (17, .newarray .long, 1, 0, 0), (19, .astore_n 3, 0, 0, 0), (20, .iconst 0, 0, 0, 0), (21, .istore 4, 0, 0, 0), (23, .iload 4, 0, 0, 0), (25, .aload_n 0, 0, 0, 0), (26, .arraylength, 0, 0, 0), (27, .iconst 5, 0, 0, 0), (28, .isub, 0, 0, 0), (29, .if_icmp .gt 1671, 0, 0, 0), (32, .aload_n 0, 0, 0, 0), (33, .iload 4, 0, 0, 0), (35, .iaload, 0, 0, 0), (36, .bipush 63, 0, 0, 0), (38, .iand, 0, 0, 0), (39, .tableswitch 1655 0 47 #[205, 230, 255, 268, 281, 294, 307, 375, 443, 511, 579, 640, 653, 678, 727, 764, 789, 802, 815, 840, 853, 866, 891, 916, 941, 966, 991, 1016, 1041, 1066, 1103, 1140, 1165, 1190, 1215, 1252, 1265, 1278, 1291, 1328, 1353, 1390, 1439, 1488, 1525, 1550, 1575, 1600], 0, 0, 0)]
def aS1 : AC := [(244, .aload_n 1, 0, 0, 0), (245, .aload_n 0, 0, 0, 0), (246, .iload 4, 0, 0, 0), (248, .iconst 1, 0, 0, 0), (249, .iadd, 0, 0, 0), (250, .iaload, 0, 0, 0), (251, .invokevirtual 32, 62, 0, 1002), (254, .aload_n 2, 0, 0, 0), (255, .aload_n 0, 0, 0, 0), (256, .iload 4, 0, 0, 0), (258, .iconst 1, 0, 0, 0), (259, .iadd, 0, 0, 0), (260, .iaload, 0, 0, 0), (261, .invokevirtual 36, 149, 0, 1102), (264, .if_icmp .eq 1430, 0, 0, 0), (267, .iconst 0, 0, 0, 0), (268, .ireturn, 0, 0, 0)]
def aS2 : AC := [(269, .aload_n 1, 0, 0, 0), (270, .aload_n 0, 0, 0, 0), (271, .iload 4, 0, 0, 0), (273, .iconst 1, 0, 0, 0), (274, .iadd, 0, 0, 0), (275, .iaload, 0, 0, 0), (276, .invokevirtual 37, 63, 0, 1002), (279, .aload_n 2, 0, 0, 0), (280, .aload_n 0, 0, 0, 0), (281, .iload 4, 0, 0, 0), (283, .iconst 1, 0, 0, 0), (284, .iadd, 0, 0, 0), (285, .iaload, 0, 0, 0), (286, .invokevirtual 41, 150, 0, 1102), (289, .if_icmp .eq 1405, 0, 0, 0), (292, .iconst 0, 0, 0, 0), (293, .ireturn, 0, 0, 0)]
def aS3 : AC := [(294, .aload_n 1, 0, 0, 0), (295, .invokevirtual 42, 64, 0, 1001), (298, .aload_n 2, 0, 0, 0), (299, .invokevirtual 46, 159, 0, 1101), (302, .if_icmp .eq 1392, 0, 0, 0), (305, .iconst 0, 0, 0, 0), (306, .ireturn, 0, 0, 0)]
def aS4 : AC := [(307, .aload_n 1, 0, 0, 0), (308, .invokevirtual 47, 65, 0, 1001), (311, .aload_n 2, 0, 0, 0), (312, .invokevirtual 50, 162, 0, 1101), (315, .if_icmp .eq 1379, 0, 0, 0), (318, .iconst 0, 0, 0, 0), (319, .ireturn, 0, 0, 0)]
def aS5 : AC := [(320, .aload_n 1, 0, 0, 0), (321, .invokevirtual 51, 66, 0, 1001), (324, .aload_n 2, 0, 0, 0), (325, .invokevirtual 54, 163, 0, 1101), (328, .if_icmp .eq 1366, 0, 0, 0), (331, .iconst 0, 0, 0, 0), (332, .ireturn, 0, 0, 0)]
def aS6 : AC := [(333, .aload_n 1, 0, 0, 0), (334, .invokevirtual 55, 67, 0, 1001), (337, .aload_n 2, 0, 0, 0), (338, .invokevirtual 58, 167, 0, 1101), (341, .if_icmp .eq 1353, 0, 0, 0), (344, .iconst 0, 0, 0, 0), (345, .ireturn, 0, 0, 0)]
def aS7 : AC := [(346, .aload_n 1, 0, 0, 0), (347, .aload_n 0, 0, 0, 0), (348, .iload 4, 0, 0, 0), (350, .iconst 1, 0, 0, 0), (351, .iadd, 0, 0, 0), (352, .iaload, 0, 0, 0), (353, .aload_n 0, 0, 0, 0), (354, .iload 4, 0, 0, 0), (356, .iconst 2, 0, 0, 0), (357, .iadd, 0, 0, 0), (358, .iaload, 0, 0, 0), (359, .aload_n 3, 0, 0, 0), (363, .istore 5, 0, 0, 0), (365, .aload_n 2, 0, 0, 0), (366, .aload_n 0, 0, 0, 0), (367, .iload 4, 0, 0, 0), (369, .iconst 1, 0, 0, 0), (370, .iadd, 0, 0, 0), (371, .iaload, 0, 0, 0), (372, .aload_n 0, 0, 0, 0), (373, .iload 4, 0, 0, 0), (375, .iconst 2, 0, 0, 0), (376, .iadd, 0, 0, 0), (377, .iaload, 0, 0, 0), (378, .invokevirtual 64, 172, 0, 1103), (381, .istore 6, 0, 0, 0), (383, .aload_n 2, 0, 0, 0), (384, .invokevirtual 65, 140, 0, 1101), (387, .iload 5, 0, 0, 0), (389, .if_icmp .eq 5, 0, 0, 0), (392, .iconst 0, 0, 0, 0), (393, .ireturn, 0, 0, 0), (394, .iload 5, 0, 0, 0), (396, .ifCond .ne 15, 0, 0, 0), (399, .aload_n 3, 0, 0, 0), (400, .iconst 0, 0, 0, 0), (401, .laload, 0, 0, 0), (402, .iload 6, 0, 0, 0), (404, .i2l, 0, 0, 0), (405, .lcmp, 0, 0, 0), (406, .ifCond .eq 5, 0, 0, 0), (409, .iconst 0, 0, 0, 0), (410, .ireturn, 0, 0, 0), (411, .goto 1283, 0, 0, 0)]
def aS8 : AC := [(414, .aload_n 1, 0, 0, 0), (415, .aload_n 0, 0, 0, 0), (416, .iload 4, 0, 0, 0), (418, .iconst 1, 0, 0, 0), (419, .iadd, 0, 0, 0), (420, .iaload, 0, 0, 0), (421, .aload_n 0, 0, 0, 0), (422, .iload 4, 0, 0, 0), (424, .iconst 2, 0, 0, 0), (425, .iadd, 0, 0, 0), (426, .iaload, 0, 0, 0), (427, .aload_n 3, 0, 0, 0), (431, .istore 5, 0, 0, 0), (433, .aload_n 2, 0, 0, 0), (434, .aload_n 0, 0, 0, 0), (435, .iload 4, 0, 0, 0), (437, .iconst 1, 0, 0, 0), (438, .iadd, 0, 0, 0), (439, .iaload, 0, 0, 0), (440, .aload_n 0, 0, 0, 0), (441, .iload 4, 0, 0, 0), (443, .iconst 2, 0, 0, 0), (444, .iadd, 0, 0, 0), (445, .iaload, 0, 0, 0), (446, .invokevirtual 70, 173, 0, 1103), (449, .istore 6, 0, 0, 0), (451, .aload_n 2, 0, 0, 0), (452, .invokevirtual 65, 140, 0, 1101), (455, .iload 5, 0, 0, 0), (457, .if_icmp .eq 5, 0, 0, 0), (460, .iconst 0, 0, 0, 0), (461, .ireturn, 0, 0, 0), (462, .iload 5, 0, 0, 0), (464, .ifCond .ne 15, 0, 0, 0), (467, .aload_n 3, 0, 0, 0), (468, .iconst 0, 0, 0, 0), (469, .laload, 0, 0, 0), (470, .iload 6, 0, 0, 0), (472, .i2l, 0, 0, 0), (473, .lcmp, 0, 0, 0), (474, .ifCond .eq 5, 0, 0, 0), (477, .iconst 0, 0, 0, 0), (478, .ireturn, 0, 0, 0), (479, .goto 1215, 0, 0, 0)]
def aS9 : AC := [(482, .aload_n 1, 0, 0, 0), (483, .aload_n 0, 0, 0, 0), (484, .iload 4, 0, 0, 0), (486, .iconst 1, 0, 0, 0), (487, .iadd, 0, 0, 0), (488, .iaload, 0, 0, 0), (489, .aload_n 0, 0, 0, 0), (490, .iload 4, 0, 0, 0), (492, .iconst 2, 0, 0, 0), (493, .iadd, 0, 0, 0), (494, .iaload, 0, 0, 0), (495, .aload_n 3, 0, 0, 0), (499, .istore 5, 0, 0, 0), (501, .aload_n 2, 0, 0, 0), (502, .aload_n 0, 0, 0, 0), (503, .iload 4, 0, 0, 0), (505, .iconst 1, 0, 0, 0), (506, .iadd, 0, 0, 0), (507, .iaload, 0, 0, 0), (508, .aload_n 0, 0, 0, 0), (509, .iload 4, 0, 0, 0), (511, .iconst 2, 0, 0, 0), (512, .iadd, 0, 0, 0), (513, .iaload, 0, 0, 0), (514, .invokevirtual 73, 174, 0, 1103), (517, .istore 6, 0, 0, 0), (519, .aload_n 2, 0, 0, 0), (520, .invokevirtual 65, 140, 0, 1101), (523, .iload 5, 0, 0, 0), (525, .if_icmp .eq 5, 0, 0, 0), (528, .iconst 0, 0, 0, 0), (529, .ireturn, 0, 0, 0), (530, .iload 5, 0, 0, 0), (532, .ifCond .ne 15, 0, 0, 0), (535, .aload_n 3, 0, 0, 0), (536, .iconst 0, 0, 0, 0), (537, .laload, 0, 0, 0), (538, .iload 6, 0, 0, 0), (540, .i2l, 0, 0, 0), (541, .lcmp, 0, 0, 0), (542, .ifCond .eq 5, 0, 0, 0), (545, .iconst 0, 0, 0, 0), (546, .ireturn, 0, 0, 0), (547, .goto 1147, 0, 0, 0)]
def aS10 : AC := [(550, .aload_n 1, 0, 0, 0), (551, .aload_n 0, 0, 0, 0), (552, .iload 4, 0, 0, 0), (554, .iconst 1, 0, 0, 0), (555, .iadd, 0, 0, 0), (556, .iaload, 0, 0, 0), (557, .aload_n 0, 0, 0, 0), (558, .iload 4, 0, 0, 0), (560, .iconst 2, 0, 0, 0), (561, .iadd, 0, 0, 0), (562, .iaload, 0, 0, 0), (563, .aload_n 3, 0, 0, 0), (567, .istore 5, 0, 0, 0), (569, .aload_n 2, 0, 0, 0), (570, .aload_n 0, 0, 0, 0), (571, .iload 4, 0, 0, 0), (573, .iconst 1, 0, 0, 0), (574, .iadd, 0, 0, 0), (575, .iaload, 0, 0, 0), (576, .aload_n 0, 0, 0, 0), (577, .iload 4, 0, 0, 0), (579, .iconst 2, 0, 0, 0), (580, .iadd, 0, 0, 0), (581, .iaload, 0, 0, 0), (582, .invokevirtual 76, 176, 0, 1103), (585, .istore 6, 0, 0, 0), (587, .aload_n 2, 0, 0, 0), (588, .invokevirtual 65, 140, 0, 1101), (591, .iload 5, 0, 0, 0), (593, .if_icmp .eq 5, 0, 0, 0), (596, .iconst 0, 0, 0, 0), (597, .ireturn, 0, 0, 0), (598, .iload 5, 0, 0, 0), (600, .ifCond .ne 15, 0, 0, 0), (603, .aload_n 3, 0, 0, 0), (604, .iconst 0, 0, 0, 0), (605, .laload, 0, 0, 0), (606, .iload 6, 0, 0, 0), (608, .i2l, 0, 0, 0), (609, .lcmp, 0, 0, 0), (610, .ifCond .eq 5, 0, 0, 0), (613, .iconst 0, 0, 0, 0), (614, .ireturn, 0, 0, 0), (615, .goto 1079, 0, 0, 0)]
def aS11 : AC := [(618, .aload_n 1, 0, 0, 0), (619, .aload_n 0, 0, 0, 0), (620, .iload 4, 0, 0, 0), (622, .iconst 1, 0, 0, 0), (623, .iadd, 0, 0, 0), (624, .iaload, 0, 0, 0), (625, .aload_n 0, 0, 0, 0), (626, .iload 4, 0, 0, 0), (628, .iconst 2, 0, 0, 0), (629, .iadd, 0, 0, 0), (630, .iaload, 0, 0, 0), (631, .aload_n 0, 0, 0, 0), (632, .iload 4, 0, 0, 0), (634, .iconst 3, 0, 0, 0), (635, .iadd, 0, 0, 0), (636, .iaload, 0, 0, 0), (637, .aload_n 0, 0, 0, 0), (638, .iload 4, 0, 0, 0), (640, .iconst 4, 0, 0, 0), (641, .iadd, 0, 0, 0), (642, .iaload, 0, 0, 0), (643, .invokevirtual 77, 72, 0, 1005), (646, .aload_n 2, 0, 0, 0), (647, .aload_n 0, 0, 0, 0), (648, .iload 4, 0, 0, 0), (650, .iconst 1, 0, 0, 0), (651, .iadd, 0, 0, 0), (652, .iaload, 0, 0, 0), (653, .aload_n 0, 0, 0, 0), (654, .iload 4, 0, 0, 0), (656, .iconst 2, 0, 0, 0), (657, .iadd, 0, 0, 0), (658, .iaload, 0, 0, 0), (659, .aload_n 0, 0, 0, 0), (660, .iload 4, 0, 0, 0), (662, .iconst 3, 0, 0, 0), (663, .iadd, 0, 0, 0), (664, .iaload, 0, 0, 0), (665, .aload_n 0, 0, 0, 0), (666, .iload 4, 0, 0, 0), (668, .iconst 4, 0, 0, 0), (669, .iadd, 0, 0, 0), (670, .iaload, 0, 0, 0), (671, .invokevirtual 81, 177, 0, 1105), (674, .if_icmp .eq 1020, 0, 0, 0), (677, .iconst 0, 0, 0, 0), (678, .ireturn, 0, 0, 0)]
def aS12 : AC := [(679, .aload_n 1, 0, 0, 0), (680, .invokevirtual 82, 73, 0, 1001), (683, .aload_n 2, 0, 0, 0), (684, .invokevirtual 85, 189, 0, 1101), (687, .if_icmp .eq 1007, 0, 0, 0), (690, .iconst 0, 0, 0, 0), (691, .ireturn, 0, 0, 0)]
def aS13 : AC := [(692, .aload_n 1, 0, 0, 0), (693, .aload_n 0, 0, 0, 0), (694, .iload 4, 0, 0, 0), (696, .iconst 1, 0, 0, 0), (697, .iadd, 0, 0, 0), (698, .iaload, 0, 0, 0), (699, .invokevirtual 86, 74, 0, 1002), (702, .aload_n 2, 0, 0, 0), (703, .aload_n 0, 0, 0, 0), (704, .iload 4, 0, 0, 0), (706, .iconst 1, 0, 0, 0), (707, .iadd, 0, 0, 0), (708, .iaload, 0, 0, 0), (709, .invokevirtual 89, 190, 0, 1102), (712, .if_icmp .eq 982, 0, 0, 0), (715, .iconst 0, 0, 0, 0), (716, .ireturn, 0, 0, 0)]
def aS14 : AC := [(717, .aload_n 1, 0, 0, 0), (718, .aload_n 0, 0, 0, 0), (719, .iload 4, 0, 0, 0), (721, .iconst 1, 0, 0, 0), (722, .iadd, 0, 0, 0), (723, .iaload, 0, 0, 0), (724, .aload_n 0, 0, 0, 0), (725, .iload 4, 0, 0, 0), (727, .iconst 2, 0, 0, 0), (728, .iadd, 0, 0, 0), (729, .iaload, 0, 0, 0), (730, .aload_n 0, 0, 0, 0), (731, .iload 4, 0, 0, 0), (733, .iconst 3, 0, 0, 0), (734, .iadd, 0, 0, 0), (735, .iaload, 0, 0, 0), (736, .invokevirtual 90, 75, 0, 1004), (739, .aload_n 2, 0, 0, 0), (740, .aload_n 0, 0, 0, 0), (741, .iload 4, 0, 0, 0), (743, .iconst 1, 0, 0, 0), (744, .iadd, 0, 0, 0), (745, .iaload, 0, 0, 0), (746, .aload_n 0, 0, 0, 0), (747, .iload 4, 0, 0, 0), (749, .iconst 2, 0, 0, 0), (750, .iadd, 0, 0, 0), (751, .iaload, 0, 0, 0), (752, .aload_n 0, 0, 0, 0), (753, .iload 4, 0, 0, 0), (755, .iconst 3, 0, 0, 0), (756, .iadd, 0, 0, 0), (757, .iaload, 0, 0, 0), (758, .invokevirtual 94, 191, 0, 1104), (761, .if_icmp .eq 933, 0, 0, 0), (764, .iconst 0, 0, 0, 0), (765, .ireturn, 0, 0, 0)]
def aS15 : AC := [(766, .aload_n 1, 0, 0, 0), (767, .aload_n 0, 0, 0, 0), (768, .iload 4, 0, 0, 0), (770, .iconst 1, 0, 0, 0), (771, .iadd, 0, 0, 0), (772, .iaload, 0, 0, 0), (773, .aload_n 0, 0, 0, 0), (774, .iload 4, 0, 0, 0), (776, .iconst 2, 0, 0, 0), (777, .iadd, 0, 0, 0), (778, .iaload, 0, 0, 0), (779, .invokevirtual 95, 76, 0, 1003), (782, .aload_n 2, 0, 0, 0), (783, .aload_n 0, 0, 0, 0), (784, .iload 4, 0, 0, 0), (786, .iconst 1, 0, 0, 0), (787, .iadd, 0, 0, 0), (788, .iaload, 0, 0, 0), (789, .aload_n 0, 0, 0, 0), (790, .iload 4, 0, 0, 0), (792, .iconst 2, 0, 0, 0), (793, .iadd, 0, 0, 0), (794, .iaload, 0, 0, 0), (795, .invokevirtual 98, 192, 0, 1103), (798, .if_icmp .eq 896, 0, 0, 0), (801, .iconst 0, 0, 0, 0), (802, .ireturn, 0, 0, 0)]
def aS16 : AC := [(803, .aload_n 1, 0, 0, 0), (804, .aload_n 0, 0, 0, 0), (805, .iload 4, 0, 0, 0), (807, .iconst 1, 0, 0, 0), (808, .iadd, 0, 0, 0), (809, .iaload, 0, 0, 0), (810, .invokevirtual 99, 77, 0, 1002), (813, .aload_n 2, 0, 0, 0), (814, .aload_n 0, 0, 0, 0), (815, .iload 4, 0, 0, 0), (817, .iconst 1, 0, 0, 0), (818, .iadd, 0, 0, 0), (819, .iaload, 0, 0, 0), (820, .invokevirtual 102, 194, 0, 1102), (823, .if_icmp .eq 871, 0, 0, 0), (826, .iconst 0, 0, 0, 0), (827, .ireturn, 0, 0, 0)]
def aS17 : AC := [(828, .aload_n 1, 0, 0, 0), (829, .invokevirtual 103, 78, 0, 1001), (832, .aload_n 2, 0, 0, 0), (833, .invokevirtual 106, 197, 0, 1101), (836, .if_icmp .eq 858, 0, 0, 0), (839, .iconst 0, 0, 0, 0), (840, .ireturn, 0, 0, 0)]
def aS18 : AC := [(841, .aload_n 1, 0, 0, 0), (842, .invokevirtual 107, 79, 0, 1001), (845, .aload_n 2, 0, 0, 0), (846, .invokevirtual 110, 181, 0, 1101), (849, .if_icmp .eq 845, 0, 0, 0), (852, .iconst 0, 0, 0, 0), (853, .ireturn, 0, 0, 0)]
def aS19 : AC := [(854, .aload_n 1, 0, 0, 0), (855, .aload_n 0, 0, 0, 0), (856, .iload 4, 0, 0, 0), (858, .iconst 1, 0, 0, 0), (859, .iadd, 0, 0, 0), (860, .iaload, 0, 0, 0), (861, .invokevirtual 111, 80, 0, 1002), (864, .aload_n 2, 0, 0, 0), (865, .aload_n 0, 0, 0, 0), (866, .iload 4, 0, 0, 0), (868, .iconst 1, 0, 0, 0), (869, .iadd, 0, 0, 0), (870, .iaload, 0, 0, 0), (871, .invokevirtual 114, 199, 0, 1102), (874, .if_icmp .eq 820, 0, 0, 0), (877, .iconst 0, 0, 0, 0), (878, .ireturn, 0, 0, 0)]
def aS20 : AC := [(879, .aload_n 1, 0, 0, 0), (880, .invokevirtual 115, 81, 0, 1001), (883, .aload_n 2, 0, 0, 0), (884, .invokevirtual 118, 200, 0, 1101), (887, .if_icmp .eq 807, 0, 0, 0), (890, .iconst 0, 0, 0, 0), (891, .ireturn, 0, 0, 0)]
def aS21 : AC := [(892, .aload_n 1, 0, 0, 0), (893, .invokevirtual 119, 82, 0, 1001), (896, .aload_n 2, 0, 0, 0), (897, .invokevirtual 122, 205, 0, 1101), (900, .if_icmp .eq 794, 0, 0, 0), (903, .iconst 0, 0, 0, 0), (904, .ireturn, 0, 0, 0)]
def aS22 : AC := [(905, .aload_n 1, 0, 0, 0), (906, .aload_n 0, 0, 0, 0), (907, .iload 4, 0, 0, 0), (909, .iconst 1, 0, 0, 0), (910, .iadd, 0, 0, 0), (911, .iaload, 0, 0, 0), (912, .invokevirtual 123, 83, 0, 1002), (915, .aload_n 2, 0, 0, 0), (916, .aload_n 0, 0, 0, 0), (917, .iload 4, 0, 0, 0), (919, .iconst 1, 0, 0, 0), (920, .iadd, 0, 0, 0), (921, .iaload, 0, 0, 0), (922, .invokevirtual 126, 210, 0, 1102), (925, .if_icmp .eq 769, 0, 0, 0), (928, .iconst 0, 0, 0, 0), (929, .ireturn, 0, 0, 0)]
def aS23 : AC := [(930, .aload_n 1, 0, 0, 0), (931, .aload_n 0, 0, 0, 0), (932, .iload 4, 0, 0, 0), (934, .iconst 1, 0, 0, 0), (935, .iadd, 0, 0, 0), (936, .iaload, 0, 0, 0), (937, .invokevirtual 127, 84, 0, 1002), (940, .aload_n 2, 0, 0, 0), (941, .aload_n 0, 0, 0, 0), (942, .iload 4, 0, 0, 0), (944, .iconst 1, 0, 0, 0), (945, .iadd, 0, 0, 0), (946, .iaload, 0, 0, 0), (947, .invokevirtual 130, 211, 0, 1102), (950, .if_icmp .eq 744, 0, 0, 0), (953, .iconst 0, 0, 0, 0), (954, .ireturn, 0, 0, 0)]
def aS24 : AC := [(955, .aload_n 1, 0, 0, 0), (956, .aload_n 0, 0, 0, 0), (957, .iload 4, 0, 0, 0), (959, .iconst 1, 0, 0, 0), (960, .iadd, 0, 0, 0), (961, .iaload, 0, 0, 0), (962, .invokevirtual 131, 85, 0, 1002), (965, .aload_n 2, 0, 0, 0), (966, .aload_n 0, 0, 0, 0), (967, .iload 4, 0, 0, 0), (969, .iconst 1, 0, 0, 0), (970, .iadd, 0, 0, 0), (971, .iaload, 0, 0, 0), (972, .invokevirtual 134, 212, 0, 1102), (975, .if_icmp .eq 719, 0, 0, 0), (978, .iconst 0, 0, 0, 0), (979, .ireturn, 0, 0, 0)]
def aS25 : AC := [(980, .aload_n 1, 0, 0, 0), (981, .aload_n 0, 0, 0, 0), (982, .iload 4, 0, 0, 0), (984, .iconst 1, 0, 0, 0), (985, .iadd, 0, 0, 0), (986, .iaload, 0, 0, 0), (987, .invokevirtual 135, 86, 0, 1002), (990, .aload_n 2, 0, 0, 0), (991, .aload_n 0, 0, 0, 0), (992, .iload 4, 0, 0, 0), (994, .iconst 1, 0, 0, 0), (995, .iadd, 0, 0, 0), (996, .iaload, 0, 0, 0), (997, .invokevirtual 138, 214, 0, 1102), (1000, .if_icmp .eq 694, 0, 0, 0), (1003, .iconst 0, 0, 0, 0), (1004, .ireturn, 0, 0, 0)]
def aS26 : AC := [(1005, .aload_n 1, 0, 0, 0), (1006, .aload_n 0, 0, 0, 0), (1007, .iload 4, 0, 0, 0), (1009, .iconst 1, 0, 0, 0), (1010, .iadd, 0, 0, 0), (1011, .iaload, 0, 0, 0), (1012, .invokevirtual 139, 87, 0, 1002), (1015, .aload_n 2, 0, 0, 0), (1016, .aload_n 0, 0, 0, 0), (1017, .iload 4, 0, 0, 0), (1019, .iconst 1, 0, 0, 0), (1020, .iadd, 0, 0, 0), (1021, .iaload, 0, 0, 0), (1022, .invokevirtual 142, 215, 0, 1102), (1025, .if_icmp .eq 669, 0, 0, 0), (1028, .iconst 0, 0, 0, 0), (1029, .ireturn, 0, 0, 0)]
def aS27 : AC := [(1030, .aload_n 1, 0, 0, 0), (1031, .aload_n 0, 0, 0, 0), (1032, .iload 4, 0, 0, 0), (1034, .iconst 1, 0, 0, 0), (1035, .iadd, 0, 0, 0), (1036, .iaload, 0, 0, 0), (1037, .invokevirtual 143, 88, 0, 1002), (1040, .aload_n 2, 0, 0, 0), (1041, .aload_n 0, 0, 0, 0), (1042, .iload 4, 0, 0, 0), (1044, .iconst 1, 0, 0, 0), (1045, .iadd, 0, 0, 0), (1046, .iaload, 0, 0, 0), (1047, .invokevirtual 146, 216, 0, 1102), (1050, .if_icmp .eq 644, 0, 0, 0), (1053, .iconst 0, 0, 0, 0), (1054, .ireturn, 0, 0, 0)]
def aS28 : AC := [(1055, .aload_n 1, 0, 0, 0), (1056, .aload_n 0, 0, 0, 0), (1057, .iload 4, 0, 0, 0), (1059, .iconst 1, 0, 0, 0), (1060, .iadd, 0, 0, 0), (1061, .iaload, 0, 0, 0), (1062, .invokevirtual 147, 89, 0, 1002), (1065, .aload_n 2, 0, 0, 0), (1066, .aload_n 0, 0, 0, 0), (1067, .iload 4, 0, 0, 0), (1069, .iconst 1, 0, 0, 0), (1070, .iadd, 0, 0, 0), (1071, .iaload, 0, 0, 0), (1072, .invokevirtual 150, 218, 0, 1102), (1075, .if_icmp .eq 619, 0, 0, 0), (1078, .iconst 0, 0, 0, 0), (1079, .ireturn, 0, 0, 0)]
def aS29 : AC := [(1080, .aload_n 1, 0, 0, 0), (1081, .aload_n 0, 0, 0, 0), (1082, .iload 4, 0, 0, 0), (1084, .iconst 1, 0, 0, 0), (1085, .iadd, 0, 0, 0), (1086, .iaload, 0, 0, 0), (1087, .invokevirtual 151, 90, 0, 1002), (1090, .aload_n 2, 0, 0, 0), (1091, .aload_n 0, 0, 0, 0), (1092, .iload 4, 0, 0, 0), (1094, .iconst 1, 0, 0, 0), (1095, .iadd, 0, 0, 0), (1096, .iaload, 0, 0, 0), (1097, .invokevirtual 154, 219, 0, 1102), (1100, .if_icmp .eq 594, 0, 0, 0), (1103, .iconst 0, 0, 0, 0), (1104, .ireturn, 0, 0, 0)]
def aS30 : AC := [(1105, .aload_n 1, 0, 0, 0), (1106, .aload_n 0, 0, 0, 0), (1107, .iload 4, 0, 0, 0), (1109, .iconst 1, 0, 0, 0), (1110, .iadd, 0, 0, 0), (1111, .iaload, 0, 0, 0), (1112, .aload_n 0, 0, 0, 0), (1113, .iload 4, 0, 0, 0), (1115, .iconst 2, 0, 0, 0), (1116, .iadd, 0, 0, 0), (1117, .iaload, 0, 0, 0), (1118, .invokevirtual 155, 91, 0, 1003), (1121, .aload_n 2, 0, 0, 0), (1122, .aload_n 0, 0, 0, 0), (1123, .iload 4, 0, 0, 0), (1125, .iconst 1, 0, 0, 0), (1126, .iadd, 0, 0, 0), (1127, .iaload, 0, 0, 0), (1128, .aload_n 0, 0, 0, 0), (1129, .iload 4, 0, 0, 0), (1131, .iconst 2, 0, 0, 0), (1132, .iadd, 0, 0, 0), (1133, .iaload, 0, 0, 0), (1134, .invokevirtual 158, 221, 0, 1103), (1137, .if_icmp .eq 557, 0, 0, 0), (1140, .iconst 0, 0, 0, 0), (1141, .ireturn, 0, 0, 0)]
def aS31 : AC := [(1142, .aload_n 1, 0, 0, 0), (1143, .aload_n 0, 0, 0, 0), (1144, .iload 4, 0, 0, 0), (1146, .iconst 1, 0, 0, 0), (1147, .iadd, 0, 0, 0), (1148, .iaload, 0, 0, 0), (1149, .aload_n 0, 0, 0, 0), (1150, .iload 4, 0, 0, 0), (1152, .iconst 2, 0, 0, 0), (1153, .iadd, 0, 0, 0), (1154, .iaload, 0, 0, 0), (1155, .invokevirtual 159, 92, 0, 1003), (1158, .aload_n 2, 0, 0, 0), (1159, .aload_n 0, 0, 0, 0), (1160, .iload 4, 0, 0, 0), (1162, .iconst 1, 0, 0, 0), (1163, .iadd, 0, 0, 0), (1164, .iaload, 0, 0, 0), (1165, .aload_n 0, 0, 0, 0), (1166, .iload 4, 0, 0, 0), (1168, .iconst 2, 0, 0, 0), (1169, .iadd, 0, 0, 0), (1170, .iaload, 0, 0, 0), (1171, .invokevirtual 162, 222, 0, 1103), (1174, .if_icmp .eq 520, 0, 0, 0), (1177, .iconst 0, 0, 0, 0), (1178, .ireturn, 0, 0, 0)]
def aS32 : AC := [(1179, .aload_n 1, 0, 0, 0), (1180, .aload_n 0, 0, 0, 0), (1181, .iload 4, 0, 0, 0), (1183, .iconst 1, 0, 0, 0), (1184, .iadd, 0, 0, 0), (1185, .iaload, 0, 0, 0), (1186, .invokevirtual 163, 93, 0, 1002), (1189, .aload_n 2, 0, 0, 0), (1190, .aload_n 0, 0, 0, 0), (1191, .iload 4, 0, 0, 0), (1193, .iconst 1, 0, 0, 0), (1194, .iadd, 0, 0, 0), (1195, .iaload, 0, 0, 0), (1196, .invokevirtual 166, 224, 0, 1102), (1199, .if_icmp .eq 495, 0, 0, 0), (1202, .iconst 0, 0, 0, 0), (1203, .ireturn, 0, 0, 0)]
def aS33 : AC := [(1204, .aload_n 1, 0, 0, 0), (1205, .aload_n 0, 0, 0, 0), (1206, .iload 4, 0, 0, 0), (1208, .iconst 1, 0, 0, 0), (1209, .iadd, 0, 0, 0), (1210, .iaload, 0, 0, 0), (1211, .invokevirtual 167, 94, 0, 1002), (1214, .aload_n 2, 0, 0, 0), (1215, .aload_n 0, 0, 0, 0), (1216, .iload 4, 0, 0, 0), (1218, .iconst 1, 0, 0, 0), (1219, .iadd, 0, 0, 0), (1220, .iaload, 0, 0, 0), (1221, .invokevirtual 170, 228, 0, 1102), (1224, .if_icmp .eq 470, 0, 0, 0), (1227, .iconst 0, 0, 0, 0), (1228, .ireturn, 0, 0, 0)]
def aS34 : AC := [(1229, .aload_n 1, 0, 0, 0), (1230, .aload_n 0, 0, 0, 0), (1231, .iload 4, 0, 0, 0), (1233, .iconst 1, 0, 0, 0), (1234, .iadd, 0, 0, 0), (1235, .iaload, 0, 0, 0), (1236, .invokevirtual 171, 95, 0, 1002), (1239, .aload_n 2, 0, 0, 0), (1240, .aload_n 0, 0, 0, 0), (1241, .iload 4, 0, 0, 0), (1243, .iconst 1, 0, 0, 0), (1244, .iadd, 0, 0, 0), (1245, .iaload, 0, 0, 0), (1246, .invokevirtual 174, 229, 0, 1102), (1249, .if_icmp .eq 445, 0, 0, 0), (1252, .iconst 0, 0, 0, 0), (1253, .ireturn, 0, 0, 0)]
def aS35 : AC := [(1254, .aload_n 1, 0, 0, 0), (1255, .aload_n 0, 0, 0, 0), (1256, .iload 4, 0, 0, 0), (1258, .iconst 1, 0, 0, 0), (1259, .iadd, 0, 0, 0), (1260, .iaload, 0, 0, 0), (1261, .aload_n 0, 0, 0, 0), (1262, .iload 4, 0, 0, 0), (1264, .iconst 2, 0, 0, 0), (1265, .iadd, 0, 0, 0), (1266, .iaload, 0, 0, 0), (1267, .invokevirtual 175, 96, 0, 1003), (1270, .aload_n 2, 0, 0, 0), (1271, .aload_n 0, 0, 0, 0), (1272, .iload 4, 0, 0, 0), (1274, .iconst 1, 0, 0, 0), (1275, .iadd, 0, 0, 0), (1276, .iaload, 0, 0, 0), (1277, .aload_n 0, 0, 0, 0), (1278, .iload 4, 0, 0, 0), (1280, .iconst 2, 0, 0, 0), (1281, .iadd, 0, 0, 0), (1282, .iaload, 0, 0, 0), (1283, .invokevirtual 178, 231, 0, 1103), (1286, .if_icmp .eq 408, 0, 0, 0), (1289, .iconst 0, 0, 0, 0), (1290, .ireturn, 0, 0, 0)]
def aS36 : AC := [(1291, .aload_n 1, 0, 0, 0), (1292, .invokevirtual 179, 97, 0, 1001), (1295, .aload_n 2, 0, 0, 0), (1296, .invokevirtual 182, 232, 0, 1101), (1299, .if_icmp .eq 395, 0, 0, 0), (1302, .iconst 0, 0, 0, 0), (1303, .ireturn, 0, 0, 0)]
def aS37 : AC := [(1304, .aload_n 1, 0, 0, 0), (1305, .invokevirtual 183, 98, 0, 1001), (1308, .aload_n 2, 0, 0, 0), (1309, .invokevirtual 186, 236, 0, 1101), (1312, .if_icmp .eq 382, 0, 0, 0), (1315, .iconst 0, 0, 0, 0), (1316, .ireturn, 0, 0, 0)]
def aS38 : AC := [(1317, .aload_n 1, 0, 0, 0), (1318, .invokevirtual 187, 99, 0, 1001), (1321, .aload_n 2, 0, 0, 0), (1322, .invokevirtual 190, 237, 0, 1101), (1325, .if_icmp .eq 369, 0, 0, 0), (1328, .iconst 0, 0, 0, 0), (1329, .ireturn, 0, 0, 0)]
def aS39 : AC := [(1330, .aload_n 1, 0, 0, 0), (1331, .aload_n 0, 0, 0, 0), (1332, .iload 4, 0, 0, 0), (1334, .iconst 1, 0, 0, 0), (1335, .iadd, 0, 0, 0), (1336, .iaload, 0, 0, 0), (1337, .aload_n 0, 0, 0, 0), (1338, .iload 4, 0, 0, 0), (1340, .iconst 2, 0, 0, 0), (1341, .iadd, 0, 0, 0), (1342, .iaload, 0, 0, 0), (1343, .invokevirtual 191, 100, 0, 1003), (1346, .aload_n 2, 0, 0, 0), (1347, .aload_n 0, 0, 0, 0), (1348, .iload 4, 0, 0, 0), (1350, .iconst 1, 0, 0, 0), (1351, .iadd, 0, 0, 0), (1352, .iaload, 0, 0, 0), (1353, .aload_n 0, 0, 0, 0), (1354, .iload 4, 0, 0, 0), (1356, .iconst 2, 0, 0, 0), (1357, .iadd, 0, 0, 0), (1358, .iaload, 0, 0, 0), (1359, .invokevirtual 194, 241, 0, 1103), (1362, .if_icmp .eq 332, 0, 0, 0), (1365, .iconst 0, 0, 0, 0), (1366, .ireturn, 0, 0, 0)]
def aS40 : AC := [(1367, .aload_n 1, 0, 0, 0), (1368, .aload_n 0, 0, 0, 0), (1369, .iload 4, 0, 0, 0), (1371, .iconst 1, 0, 0, 0), (1372, .iadd, 0, 0, 0), (1373, .iaload, 0, 0, 0), (1374, .invokevirtual 195, 101, 0, 1002), (1377, .aload_n 2, 0, 0, 0), (1378, .aload_n 0, 0, 0, 0), (1379, .iload 4, 0, 0, 0), (1381, .iconst 1, 0, 0, 0), (1382, .iadd, 0, 0, 0), (1383, .iaload, 0, 0, 0), (1384, .invokevirtual 198, 242, 0, 1102), (1387, .if_icmp .eq 307, 0, 0, 0), (1390, .iconst 0, 0, 0, 0), (1391, .ireturn, 0, 0, 0)]
def aS41 : AC := [(1392, .aload_n 1, 0, 0, 0), (1393, .aload_n 0, 0, 0, 0), (1394, .iload 4, 0, 0, 0), (1396, .iconst 1, 0, 0, 0), (1397, .iadd, 0, 0, 0), (1398, .iaload, 0, 0, 0), (1399, .aload_n 0, 0, 0, 0), (1400, .iload 4, 0, 0, 0), (1402, .iconst 2, 0, 0, 0), (1403, .iadd, 0, 0, 0), (1404, .iaload, 0, 0, 0), (1405, .invokevirtual 199, 102, 0, 1003), (1408, .aload_n 2, 0, 0, 0), (1409, .aload_n 0, 0, 0, 0), (1410, .iload 4, 0, 0, 0), (1412, .iconst 1, 0, 0, 0), (1413, .iadd, 0, 0, 0), (1414, .iaload, 0, 0, 0), (1415, .aload_n 0, 0, 0, 0), (1416, .iload 4, 0, 0, 0), (1418, .iconst 2, 0, 0, 0), (1419, .iadd, 0, 0, 0), (1420, .iaload, 0, 0, 0), (1421, .invokevirtual 202, 243, 0, 1103), (1424, .if_icmp .eq 270, 0, 0, 0), (1427, .iconst 0, 0, 0, 0), (1428, .ireturn, 0, 0, 0)]
def aS42 : AC := [(1429, .aload_n 1, 0, 0, 0), (1430, .aload_n 0, 0, 0, 0), (1431, .iload 4, 0, 0, 0), (1433, .iconst 1, 0, 0, 0), (1434, .iadd, 0, 0, 0), (1435, .iaload, 0, 0, 0), (1436, .aload_n 0, 0, 0, 0), (1437, .iload 4, 0, 0, 0), (1439, .iconst 2, 0, 0, 0), (1440, .iadd, 0, 0, 0), (1441, .iaload, 0, 0, 0), (1442, .aload_n 0, 0, 0, 0), (1443, .iload 4, 0, 0, 0), (1445, .iconst 3, 0, 0, 0), (1446, .iadd, 0, 0, 0), (1447, .iaload, 0, 0, 0), (1448, .invokevirtual 203, 103, 0, 1004), (1451, .aload_n 2, 0, 0, 0), (1452, .aload_n 0, 0, 0, 0), (1453, .iload 4, 0, 0, 0), (1455, .iconst 1, 0, 0, 0), (1456, .iadd, 0, 0, 0), (1457, .iaload, 0, 0, 0), (1458, .aload_n 0, 0, 0, 0), (1459, .iload 4, 0, 0, 0), (1461, .iconst 2, 0, 0, 0), (1462, .iadd, 0, 0, 0), (1463, .iaload, 0, 0, 0), (1464, .aload_n 0, 0, 0, 0), (1465, .iload 4, 0, 0, 0), (1467, .iconst 3, 0, 0, 0), (1468, .iadd, 0, 0, 0), (1469, .iaload, 0, 0, 0), (1470, .invokevirtual 206, 246, 0, 1104), (1473, .if_icmp .eq 221, 0, 0, 0), (1476, .iconst 0, 0, 0, 0), (1477, .ireturn, 0, 0, 0)]
def aS43 : AC := [(1478, .aload_n 1, 0, 0, 0), (1479, .aload_n 0, 0, 0, 0), (1480, .iload 4, 0, 0, 0), (1482, .iconst 1, 0, 0, 0), (1483, .iadd, 0, 0, 0), (1484, .iaload, 0, 0, 0), (1485, .aload_n 0, 0, 0, 0), (1486, .iload 4, 0, 0, 0), (1488, .iconst 2, 0, 0, 0), (1489, .iadd, 0, 0, 0), (1490, .iaload, 0, 0, 0), (1491, .aload_n 0, 0, 0, 0), (1492, .iload 4, 0, 0, 0), (1494, .iconst 3, 0, 0, 0), (1495, .iadd, 0, 0, 0), (1496, .iaload, 0, 0, 0), (1497, .invokevirtual 207, 104, 0, 1004), (1500, .aload_n 2, 0, 0, 0), (1501, .aload_n 0, 0, 0, 0), (1502, .iload 4, 0, 0, 0), (1504, .iconst 1, 0, 0, 0), (1505, .iadd, 0, 0, 0), (1506, .iaload, 0, 0, 0), (1507, .aload_n 0, 0, 0, 0), (1508, .iload 4, 0, 0, 0), (1510, .iconst 2, 0, 0, 0), (1511, .iadd, 0, 0, 0), (1512, .iaload, 0, 0, 0), (1513, .aload_n 0, 0, 0, 0), (1514, .iload 4, 0, 0, 0), (1516, .iconst 3, 0, 0, 0), (1517, .iadd, 0, 0, 0), (1518, .iaload, 0, 0, 0), (1519, .invokevirtual 210, 247, 0, 1104), (1522, .if_icmp .eq 172, 0, 0, 0), (1525, .iconst 0, 0, 0, 0), (1526, .ireturn, 0, 0, 0)]
def aS44 : AC := [(1527, .aload_n 1, 0, 0, 0), (1528, .aload_n 0, 0, 0, 0), (1529, .iload 4, 0, 0, 0), (1531, .iconst 1, 0, 0, 0), (1532, .iadd, 0, 0, 0), (1533, .iaload, 0, 0, 0), (1534, .aload_n 0, 0, 0, 0), (1535, .iload 4, 0, 0, 0), (1537, .iconst 2, 0, 0, 0), (1538, .iadd, 0, 0, 0), (1539, .iaload, 0, 0, 0), (1540, .invokevirtual 211, 105, 0, 1003), (1543, .aload_n 2, 0, 0, 0), (1544, .aload_n 0, 0, 0, 0), (1545, .iload 4, 0, 0, 0), (1547, .iconst 1, 0, 0, 0), (1548, .iadd, 0, 0, 0), (1549, .iaload, 0, 0, 0), (1550, .aload_n 0, 0, 0, 0), (1551, .iload 4, 0, 0, 0), (1553, .iconst 2, 0, 0, 0), (1554, .iadd, 0, 0, 0), (1555, .iaload, 0, 0, 0), (1556, .invokevirtual 214, 248, 0, 1103), (1559, .if_icmp .eq 135, 0, 0, 0), (1562, .iconst 0, 0, 0, 0), (1563, .ireturn, 0, 0, 0)]
def aS45 : AC := [(1564, .aload_n 1, 0, 0, 0), (1565, .aload_n 0, 0, 0, 0), (1566, .iload 4, 0, 0, 0), (1568, .iconst 1, 0, 0, 0), (1569, .iadd, 0, 0, 0), (1570, .iaload, 0, 0, 0), (1571, .invokevirtual 215, 106, 0, 1002), (1574, .aload_n 2, 0, 0, 0), (1575, .aload_n 0, 0, 0, 0), (1576, .iload 4, 0, 0, 0), (1578, .iconst 1, 0, 0, 0), (1579, .iadd, 0, 0, 0), (1580, .iaload, 0, 0, 0), (1581, .invokevirtual 218, 249, 0, 1102), (1584, .if_icmp .eq 110, 0, 0, 0), (1587, .iconst 0, 0, 0, 0), (1588, .ireturn, 0, 0, 0)]
def aS46 : AC := [(1589, .aload_n 1, 0, 0, 0), (1590, .aload_n 0, 0, 0, 0), (1591, .iload 4, 0, 0, 0), (1593, .iconst 1, 0, 0, 0), (1594, .iadd, 0, 0, 0), (1595, .iaload, 0, 0, 0), (1596, .invokevirtual 219, 107, 0, 1002), (1599, .aload_n 2, 0, 0, 0), (1600, .aload_n 0, 0, 0, 0), (1601, .iload 4, 0, 0, 0), (1603, .iconst 1, 0, 0, 0), (1604, .iadd, 0, 0, 0), (1605, .iaload, 0, 0, 0), (1606, .invokevirtual 222, 250, 0, 1102), (1609, .if_icmp .eq 85, 0, 0, 0), (1612, .iconst 0, 0, 0, 0), (1613, .ireturn, 0, 0, 0)]
def aS47 : AC := [(1614, .aload_n 1, 0, 0, 0), (1615, .aload_n 0, 0, 0, 0), (1616, .iload 4, 0, 0, 0), (1618, .iconst 1, 0, 0, 0), (1619, .iadd, 0, 0, 0), (1620, .iaload, 0, 0, 0), (1621, .invokevirtual 223, 108, 0, 1002), (1624, .aload_n 2, 0, 0, 0), (1625, .aload_n 0, 0, 0, 0), (1626, .iload 4, 0, 0, 0), (1628, .iconst 1, 0, 0, 0), (1629, .iadd, 0, 0, 0), (1630, .iaload, 0, 0, 0), (1631, .invokevirtual 226, 251, 0, 1102), (1634, .if_icmp .eq 60, 0, 0, 0), (1637, .iconst 0, 0, 0, 0), (1638, .ireturn, 0, 0, 0)]
def aS48 : AC := [(1639, .aload_n 1, 0, 0, 0), (1640, .aload_n 0, 0, 0, 0), (1641, .iload 4, 0, 0, 0), (1643, .iconst 1, 0, 0, 0), (1644, .iadd, 0, 0, 0), (1645, .iaload, 0, 0, 0), (1646, .aload_n 3, 0, 0, 0), (1650, .istore 5, 0, 0, 0), (1652, .aload_n 2, 0, 0, 0), (1653, .aload_n 0, 0, 0, 0), (1654, .iload 4, 0, 0, 0), (1656, .iconst 1, 0, 0, 0), (1657, .iadd, 0, 0, 0), (1658, .iaload, 0, 0, 0), (1659, .invokevirtual 230, 252, 0, 1102), (1662, .lstore 6, 0, 0, 0), (1664, .aload_n 2, 0, 0, 0), (1665, .invokevirtual 65, 140, 0, 1101), (1668, .iload 5, 0, 0, 0), (1670, .if_icmp .eq 5, 0, 0, 0), (1673, .iconst 0, 0, 0, 0), (1674, .ireturn, 0, 0, 0), (1675, .iload 5, 0, 0, 0), (1677, .ifCond .ne 14, 0, 0, 0), (1680, .aload_n 3, 0, 0, 0), (1681, .iconst 0, 0, 0, 0), (1682, .laload, 0, 0, 0), (1683, .lload 6, 0, 0, 0), (1685, .lcmp, 0, 0, 0), (1686, .ifCond .eq 5, 0, 0, 0), (1689, .iconst 0, 0, 0, 0), (1690, .ireturn, 0, 0, 0), (1691, .goto 3, 0, 0, 0)]
def aS49 : AC := [(1694, .iinc 4 5, 0, 0, 0), (1697, .goto (-1674), 0, 0, 0), (1700, .iconst 1, 0, 0, 0), (1701, .ireturn, 0, 0, 0)]
def lawS : List AC := [aS0, aS1, aS2, aS3, aS4, aS5, aS6, aS7, aS8, aS9, aS10, aS11, aS12, aS13, aS14, aS15, aS16, aS17, aS18, aS19, aS20, aS21, aS22, aS23, aS24, aS25, aS26, aS27, aS28, aS29, aS30, aS31, aS32, aS33, aS34, aS35, aS36, aS37, aS38, aS39, aS40, aS41, aS42, aS43, aS44, aS45, aS46, aS47, aS48, aS49]
def ac9L_law : AC := lawS.flatten
set_option maxRecDepth 100000 in
theorem okS0 : acok (x, code, 8, (some .boolean), aS0, 12, 0) := acokB_ok (hs := [[1025, 1026, 1001], [], [1027, 1028], [], [5031, 5032, 1013], [], [5033, 5034], [], [], [1080], [], [], [], [], [], [], [], [], [], [], [], [], [], [], [205]]) (by decide +kernel)
set_option maxRecDepth 100000 in
theorem okS1 : acok (x, code, 8, (some .boolean), aS1, 12, 0) := acokB_ok (hs := [[], [], [], [], [], [], [2118, 2119, 2120], [], [], [], [], [], [], [5201, 5202, 5203]]) (by decide +kernel)
set_option maxRecDepth 100000 in
theorem okS2 : acok (x, code, 8, (some .boolean), aS2, 12, 0) := acokB_ok (hs := [[], [], [], [], [], [], [2126, 2127, 2128], [], [], [], [], [], [], [5205, 5206, 5207]]) (by decide +kernel)
set_option maxRecDepth 100000 in
theorem okS3 : acok (x, code, 8, (some .boolean), aS3, 12, 0) := acokB_ok (hs := [[], [2130, 2131, 2132], [], [5212, 5213, 5214]]) (by decide +kernel)
set_option maxRecDepth 100000 in
theorem okS4 : acok (x, code, 8, (some .boolean), aS4, 12, 0) := acokB_ok (hs := [[], [2173, 2174, 2175], [], [6006, 6007, 6008]]) (by decide +kernel)
set_option maxRecDepth 100000 in
theorem okS5 : acok (x, code, 8, (some .boolean), aS5, 12, 0) := acokB_ok (hs := [[], [2186, 2187, 2188], [], [6072, 6073, 6074]]) (by decide +kernel)
set_option maxRecDepth 100000 in
theorem okS6 : acok (x, code, 8, (some .boolean), aS6, 12, 0) := acokB_ok (hs := [[], [2202, 2203, 2204], [], [6080, 6081, 6082]]) (by decide +kernel)
set_option maxRecDepth 100000 in
theorem okS7 : acok (x, code, 8, (some .boolean), aS7, 12, 0) := acokB_ok (hs := [[], [], [], [], [], [], [], [], [], [], [], [], [], [], [], [], [], [], [], [], [], [], [], [], [6100, 6101, 6102], [], [], [5197, 5198, 5199]]) (by decide +kernel)
set_option maxRecDepth 100000 in
theorem okS8 : acok (x, code, 8, (some .boolean), aS8, 12, 0) := acokB_ok (hs := [[], [], [], [], [], [], [], [], [], [], [], [], [], [], [], [], [], [], [], [], [], [], [], [], [6108, 6109, 6110], [], [], [5197, 5198, 5199]]) (by decide +kernel)
set_option maxRecDepth 100000 in
theorem okS9 : acok (x, code, 8, (some .boolean), aS9, 12, 0) := acokB_ok (hs := [[], [], [], [], [], [], [], [], [], [], [], [], [], [], [], [], [], [], [], [], [], [], [], [], [6112, 6113, 6114], [], [], [5197, 5198, 5199]]) (by decide +kernel)
set_option maxRecDepth 100000 in
theorem okS10 : acok (x, code, 8, (some .boolean), aS10, 12, 0) := acokB_ok (hs := [[], [], [], [], [], [], [], [], [], [], [], [], [], [], [], [], [], [], [], [], [], [], [], [], [6121, 6122, 6123], [], [], [5197, 5198, 5199]]) (by decide +kernel)
set_option maxRecDepth 100000 in
theorem okS11 : acok (x, code, 8, (some .boolean), aS11, 12, 0) := acokB_ok (hs := [[], [], [], [], [], [], [], [], [], [], [], [], [], [], [], [], [], [], [], [], [], [2238, 2239, 3000], [], [], [], [], [], [], [], [], [], [], [], [], [], [], [], [], [], [], [], [], [], [6129, 6130, 6131]]) (by decide +kernel)
set_option maxRecDepth 100000 in
theorem okS12 : acok (x, code, 8, (some .boolean), aS12, 12, 0) := acokB_ok (hs := [[], [3012, 3013, 3014], [], [6139, 6140, 6141]]) (by decide +kernel)
set_option maxRecDepth 100000 in
theorem okS13 : acok (x, code, 8, (some .boolean), aS13, 12, 0) := acokB_ok (hs := [[], [], [], [], [], [], [3039, 3040, 3041], [], [], [], [], [], [], [6154, 6155, 6156]]) (by decide +kernel)
set_option maxRecDepth 100000 in
theorem okS14 : acok (x, code, 8, (some .boolean), aS14, 12, 0) := acokB_ok (hs := [[], [], [], [], [], [], [], [], [], [], [], [], [], [], [], [], [3070, 3071, 3072], [], [], [], [], [], [], [], [], [], [], [], [], [], [], [], [], [6179, 6180, 6181]]) (by decide +kernel)
set_option maxRecDepth 100000 in
theorem okS15 : acok (x, code, 8, (some .boolean), aS15, 12, 0) := acokB_ok (hs := [[], [], [], [], [], [], [], [], [], [], [], [3082, 3083, 3084], [], [], [], [], [], [], [], [], [], [], [], [6188, 6189, 6190]]) (by decide +kernel)
set_option maxRecDepth 100000 in
theorem okS16 : acok (x, code, 8, (some .boolean), aS16, 12, 0) := acokB_ok (hs := [[], [], [], [], [], [], [3086, 3087, 3088], [], [], [], [], [], [], [6196, 6197, 6198]]) (by decide +kernel)
set_option maxRecDepth 100000 in
theorem okS17 : acok (x, code, 8, (some .boolean), aS17, 12, 0) := acokB_ok (hs := [[], [3117, 3118, 3119], [], [6223, 6224, 6225]]) (by decide +kernel)
set_option maxRecDepth 100000 in
theorem okS18 : acok (x, code, 8, (some .boolean), aS18, 12, 0) := acokB_ok (hs := [[], [3132, 3133, 3134], [], [6135, 6136, 6137]]) (by decide +kernel)
set_option maxRecDepth 100000 in
theorem okS19 : acok (x, code, 8, (some .boolean), aS19, 12, 0) := acokB_ok (hs := [[], [], [], [], [], [], [3140, 3141, 3142], [], [], [], [], [], [], [6236, 6237, 6238]]) (by decide +kernel)
set_option maxRecDepth 100000 in
theorem okS20 : acok (x, code, 8, (some .boolean), aS20, 12, 0) := acokB_ok (hs := [[], [3152, 3153, 3154], [], [7004, 7005, 7006]]) (by decide +kernel)
set_option maxRecDepth 100000 in
theorem okS21 : acok (x, code, 8, (some .boolean), aS21, 12, 0) := acokB_ok (hs := [[], [3156, 3157, 3158], [], [7008, 7009, 7010]]) (by decide +kernel)
set_option maxRecDepth 100000 in
theorem okS22 : acok (x, code, 8, (some .boolean), aS22, 12, 0) := acokB_ok (hs := [[], [], [], [], [], [], [3180, 3181, 3182], [], [], [], [], [], [], [7030, 7031, 7032]]) (by decide +kernel)
set_option maxRecDepth 100000 in
theorem okS23 : acok (x, code, 8, (some .boolean), aS23, 12, 0) := acokB_ok (hs := [[], [], [], [], [], [], [3214, 3215, 3216], [], [], [], [], [], [], [7051, 7052, 7053]]) (by decide +kernel)
set_option maxRecDepth 100000 in
theorem okS24 : acok (x, code, 8, (some .boolean), aS24, 12, 0) := acokB_ok (hs := [[], [], [], [], [], [], [3218, 3219, 3220], [], [], [], [], [], [], [7055, 7056, 7057]]) (by decide +kernel)
set_option maxRecDepth 100000 in
theorem okS25 : acok (x, code, 8, (some .boolean), aS25, 12, 0) := acokB_ok (hs := [[], [], [], [], [], [], [3228, 3229, 3230], [], [], [], [], [], [], [7060, 7061, 7062]]) (by decide +kernel)
set_option maxRecDepth 100000 in
theorem okS26 : acok (x, code, 8, (some .boolean), aS26, 12, 0) := acokB_ok (hs := [[], [], [], [], [], [], [4003, 4004, 4005], [], [], [], [], [], [], [7070, 7071, 7072]]) (by decide +kernel)
set_option maxRecDepth 100000 in
theorem okS27 : acok (x, code, 8, (some .boolean), aS27, 12, 0) := acokB_ok (hs := [[], [], [], [], [], [], [4011, 4012, 4013], [], [], [], [], [], [], [7074, 7075, 7076]]) (by decide +kernel)
set_option maxRecDepth 100000 in
theorem okS28 : acok (x, code, 8, (some .boolean), aS28, 12, 0) := acokB_ok (hs := [[], [], [], [], [], [], [4015, 4016, 4017], [], [], [], [], [], [], [7079, 7080, 7081]]) (by decide +kernel)
set_option maxRecDepth 100000 in
theorem okS29 : acok (x, code, 8, (some .boolean), aS29, 12, 0) := acokB_ok (hs := [[], [], [], [], [], [], [4019, 4020, 4021], [], [], [], [], [], [], [7088, 7089, 7090]]) (by decide +kernel)
set_option maxRecDepth 100000 in
theorem okS30 : acok (x, code, 8, (some .boolean), aS30, 12, 0) := acokB_ok (hs := [[], [], [], [], [], [], [], [], [], [], [], [4023, 4024, 4025], [], [], [], [], [], [], [], [], [], [], [], [7093, 7094, 7095]]) (by decide +kernel)
set_option maxRecDepth 100000 in
theorem okS31 : acok (x, code, 8, (some .boolean), aS31, 12, 0) := acokB_ok (hs := [[], [], [], [], [], [], [], [], [], [], [], [4039, 4040, 4041], [], [], [], [], [], [], [], [], [], [], [], [7109, 7110, 7111]]) (by decide +kernel)
set_option maxRecDepth 100000 in
theorem okS32 : acok (x, code, 8, (some .boolean), aS32, 12, 0) := acokB_ok (hs := [[], [], [], [], [], [], [4044, 4045, 4046], [], [], [], [], [], [], [7114, 7115, 7116]]) (by decide +kernel)
set_option maxRecDepth 100000 in
theorem okS33 : acok (x, code, 8, (some .boolean), aS33, 12, 0) := acokB_ok (hs := [[], [], [], [], [], [], [4053, 4054, 4055], [], [], [], [], [], [], [7123, 7124, 7125]]) (by decide +kernel)
set_option maxRecDepth 100000 in
theorem okS34 : acok (x, code, 8, (some .boolean), aS34, 12, 0) := acokB_ok (hs := [[], [], [], [], [], [], [4070, 4071, 4072], [], [], [], [], [], [], [7140, 7141, 7142]]) (by decide +kernel)
set_option maxRecDepth 100000 in
theorem okS35 : acok (x, code, 8, (some .boolean), aS35, 12, 0) := acokB_ok (hs := [[], [], [], [], [], [], [], [], [], [], [], [4078, 4079, 4080], [], [], [], [], [], [], [], [], [], [], [], [7144, 7145, 7146]]) (by decide +kernel)
set_option maxRecDepth 100000 in
theorem okS36 : acok (x, code, 8, (some .boolean), aS36, 12, 0) := acokB_ok (hs := [[], [4082, 4083, 4084], [], [7154, 7155, 7156]]) (by decide +kernel)
set_option maxRecDepth 100000 in
theorem okS37 : acok (x, code, 8, (some .boolean), aS37, 12, 0) := acokB_ok (hs := [[], [4090, 4091, 4092], [], [7158, 7159, 7160]]) (by decide +kernel)
set_option maxRecDepth 100000 in
theorem okS38 : acok (x, code, 8, (some .boolean), aS38, 12, 0) := acokB_ok (hs := [[], [4113, 4114, 4115], [], [7174, 7175, 7176]]) (by decide +kernel)
set_option maxRecDepth 100000 in
theorem okS39 : acok (x, code, 8, (some .boolean), aS39, 12, 0) := acokB_ok (hs := [[], [], [], [], [], [], [], [], [], [], [], [4122, 4123, 4124], [], [], [], [], [], [], [], [], [], [], [], [7178, 7179, 7180]]) (by decide +kernel)
set_option maxRecDepth 100000 in
theorem okS40 : acok (x, code, 8, (some .boolean), aS40, 12, 0) := acokB_ok (hs := [[], [], [], [], [], [], [4135, 4136, 4137], [], [], [], [], [], [], [7195, 7196, 7197]]) (by decide +kernel)
set_option maxRecDepth 100000 in
theorem okS41 : acok (x, code, 8, (some .boolean), aS41, 12, 0) := acokB_ok (hs := [[], [], [], [], [], [], [], [], [], [], [], [4139, 4140, 4141], [], [], [], [], [], [], [], [], [], [], [], [7199, 7200, 7201]]) (by decide +kernel)
set_option maxRecDepth 100000 in
theorem okS42 : acok (x, code, 8, (some .boolean), aS42, 12, 0) := acokB_ok (hs := [[], [], [], [], [], [], [], [], [], [], [], [], [], [], [], [], [4143, 4144, 4145], [], [], [], [], [], [], [], [], [], [], [], [], [], [], [], [], [7203, 7204, 7205]]) (by decide +kernel)
set_option maxRecDepth 100000 in
theorem okS43 : acok (x, code, 8, (some .boolean), aS43, 12, 0) := acokB_ok (hs := [[], [], [], [], [], [], [], [], [], [], [], [], [], [], [], [], [4153, 4154, 4155], [], [], [], [], [], [], [], [], [], [], [], [], [], [], [], [], [7215, 7216, 7217]]) (by decide +kernel)
set_option maxRecDepth 100000 in
theorem okS44 : acok (x, code, 8, (some .boolean), aS44, 12, 0) := acokB_ok (hs := [[], [], [], [], [], [], [], [], [], [], [], [4157, 4158, 4159], [], [], [], [], [], [], [], [], [], [], [], [7219, 7220, 7221]]) (by decide +kernel)
set_option maxRecDepth 100000 in
theorem okS45 : acok (x, code, 8, (some .boolean), aS45, 12, 0) := acokB_ok (hs := [[], [], [], [], [], [], [4162, 4163, 4164], [], [], [], [], [], [], [7224, 7225, 7226]]) (by decide +kernel)
set_option maxRecDepth 100000 in
theorem okS46 : acok (x, code, 8, (some .boolean), aS46, 12, 0) := acokB_ok (hs := [[], [], [], [], [], [], [4166, 4167, 4168], [], [], [], [], [], [], [7228, 7229, 7230]]) (by decide +kernel)
set_option maxRecDepth 100000 in
theorem okS47 : acok (x, code, 8, (some .boolean), aS47, 12, 0) := acokB_ok (hs := [[], [], [], [], [], [], [4170, 4171, 4172], [], [], [], [], [], [], [7232, 7233, 7234]]) (by decide +kernel)
set_option maxRecDepth 100000 in
theorem okS48 : acok (x, code, 8, (some .boolean), aS48, 12, 0) := acokB_ok (hs := [[], [], [], [], [], [], [], [], [], [], [], [], [], [], [7236, 7237, 7238], [], [], [5197, 5198, 5199]]) (by decide +kernel)
set_option maxRecDepth 100000 in
theorem okS49 : acok (x, code, 8, (some .boolean), aS49, 12, 0) := acokB_ok (hs := []) (by decide +kernel)
theorem okS : ∀ S ∈ lawS, acok (x, code, 8, (some .boolean), S, 12, 0) := List.forall_mem_cons.mpr ⟨okS0, List.forall_mem_cons.mpr ⟨okS1, List.forall_mem_cons.mpr ⟨okS2, List.forall_mem_cons.mpr ⟨okS3, List.forall_mem_cons.mpr ⟨okS4, List.forall_mem_cons.mpr ⟨okS5, List.forall_mem_cons.mpr ⟨okS6, List.forall_mem_cons.mpr ⟨okS7, List.forall_mem_cons.mpr ⟨okS8, List.forall_mem_cons.mpr ⟨okS9, List.forall_mem_cons.mpr ⟨okS10, List.forall_mem_cons.mpr ⟨okS11, List.forall_mem_cons.mpr ⟨okS12, List.forall_mem_cons.mpr ⟨okS13, List.forall_mem_cons.mpr ⟨okS14, List.forall_mem_cons.mpr ⟨okS15, List.forall_mem_cons.mpr ⟨okS16, List.forall_mem_cons.mpr ⟨okS17, List.forall_mem_cons.mpr ⟨okS18, List.forall_mem_cons.mpr ⟨okS19, List.forall_mem_cons.mpr ⟨okS20, List.forall_mem_cons.mpr ⟨okS21, List.forall_mem_cons.mpr ⟨okS22, List.forall_mem_cons.mpr ⟨okS23, List.forall_mem_cons.mpr ⟨okS24, List.forall_mem_cons.mpr ⟨okS25, List.forall_mem_cons.mpr ⟨okS26, List.forall_mem_cons.mpr ⟨okS27, List.forall_mem_cons.mpr ⟨okS28, List.forall_mem_cons.mpr ⟨okS29, List.forall_mem_cons.mpr ⟨okS30, List.forall_mem_cons.mpr ⟨okS31, List.forall_mem_cons.mpr ⟨okS32, List.forall_mem_cons.mpr ⟨okS33, List.forall_mem_cons.mpr ⟨okS34, List.forall_mem_cons.mpr ⟨okS35, List.forall_mem_cons.mpr ⟨okS36, List.forall_mem_cons.mpr ⟨okS37, List.forall_mem_cons.mpr ⟨okS38, List.forall_mem_cons.mpr ⟨okS39, List.forall_mem_cons.mpr ⟨okS40, List.forall_mem_cons.mpr ⟨okS41, List.forall_mem_cons.mpr ⟨okS42, List.forall_mem_cons.mpr ⟨okS43, List.forall_mem_cons.mpr ⟨okS44, List.forall_mem_cons.mpr ⟨okS45, List.forall_mem_cons.mpr ⟨okS46, List.forall_mem_cons.mpr ⟨okS47, List.forall_mem_cons.mpr ⟨okS48, List.forall_mem_cons.mpr ⟨okS49, fun S h => absurd h List.not_mem_nil⟩⟩⟩⟩⟩⟩⟩⟩⟩⟩⟩⟩⟩⟩⟩⟩⟩⟩⟩⟩⟩⟩⟩⟩⟩⟩⟩⟩⟩⟩⟩⟩⟩⟩⟩⟩⟩⟩⟩⟩⟩⟩⟩⟩⟩⟩⟩⟩⟩⟩
theorem ok9L_law : acok (x, code, 8, (some .boolean), ac9L_law, 12, 0) := fun q hq => by
  obtain ⟨S, hS, hq⟩ := List.mem_flatten.mp hq
  exact okS S hS q hq
/-- the law's own rules: the script, the wrappers -/
def lwXR (L : Nat) (xs : Nat → Int32) : KT → KT := fun K pc ls st h bc bs =>
  (∃ (r1 r2 : Nat) (r3 : Int) (r : List Value), (pc, .arraylength, r1, r2, r3) ∈ ac9L_law ∧ st = .ref 1000006 :: r ∧ K (pc + 1) ls (.int (I (L : Int)) :: r) h bc bs) ∨
  (∃ (r1 r2 : Nat) (r3 : Int) (e : Int) (r : List Value), (pc, .iaload, r1, r2, r3) ∈ ac9L_law ∧ st = .int (I e) :: .ref 1000006 :: r ∧ 0 ≤ e ∧ e < (L : Int) ∧ K (pc + 1) ls (.int (I (xs e.toNat).toInt) :: r) h bc bs) ∨
  (pc = 360 ∧ ∃ (sh : List (Nat × Nat)) (i j : Int), GD gE gRL sh h ∧ h.1[201]? = some (1, 1) ∧ r32 i ∧ r32 j ∧ st = [.ref 201, .int (I j), .int (I i), .ref 0] ∧ (ls.all fun q => okv h q.2) = true ∧ 1 ≤ bc ∧ 6 ≤ bs ∧ ∀ rv h', wrQ h (postR h i j) rv h' → K (pc + 3) ls (psh rv []) h' (bc - 1) (bs - 6)) ∨ (pc = 428 ∧ ∃ (sh : List (Nat × Nat)) (i j : Int), GD gE gRL sh h ∧ h.1[201]? = some (1, 1) ∧ r32 i ∧ r32 j ∧ st = [.ref 201, .int (I j), .int (I i), .ref 0] ∧ (ls.all fun q => okv h q.2) = true ∧ 1 ≤ bc ∧ 6 ≤ bs ∧ ∀ rv h', wrQ h (rockR h i j) rv h' → K (pc + 3) ls (psh rv []) h' (bc - 1) (bs - 6)) ∨ (pc = 496 ∧ ∃ (sh : List (Nat × Nat)) (i j : Int), GD gE gRL sh h ∧ h.1[201]? = some (1, 1) ∧ r32 i ∧ r32 j ∧ st = [.ref 201, .int (I j), .int (I i), .ref 0] ∧ (ls.all fun q => okv h q.2) = true ∧ 1 ≤ bc ∧ 6 ≤ bs ∧ ∀ rv h', wrQ h (messR h i j) rv h' → K (pc + 3) ls (psh rv []) h' (bc - 1) (bs - 6)) ∨ (pc = 564 ∧ ∃ (sh : List (Nat × Nat)) (i j : Int), GD gE gRL sh h ∧ h.1[201]? = some (1, 1) ∧ r32 i ∧ r32 j ∧ st = [.ref 201, .int (I j), .int (I i), .ref 0] ∧ (ls.all fun q => okv h q.2) = true ∧ 1 ≤ bc ∧ 6 ≤ bs ∧ ∀ rv h', wrQ h (wayR h i j) rv h' → K (pc + 3) ls (psh rv []) h' (bc - 1) (bs - 6)) ∨ (pc = 1647 ∧ ∃ (sh : List (Nat × Nat)) (i : Int), GD gE gRL sh h ∧ h.1[201]? = some (1, 1) ∧ r32 i ∧ st = [.ref 201, .int (I i), .ref 0] ∧ (ls.all fun q => okv h q.2) = true ∧ 1 ≤ bc ∧ 6 ≤ bs ∧ ∀ rv h', wrQ h (rowR h i) rv h' → K (pc + 3) ls (psh rv []) h' (bc - 1) (bs - 6))
def lwQ : QT := fun rv _ => rv = some (.int (I 1))
def okL (v : Value) : Bool := match v with
  | .ref a => decide (a < 202) || decide (1000000 ≤ a)
  | _ => true
def lok (ls : List (Nat × Value)) : Bool := ls.all fun q => okL q.2
theorem lok_so1 {ls : List (Nat × Value)} {i : Nat} {v : Value} (hl : lok ls = true) (hv : okL v = true) : lok (so1 ls i v) = true := by
  unfold lok so1
  rw [List.all_cons, hv, Bool.true_and]
  exact List.all_eq_true.mpr fun q hq => List.all_eq_true.mp hl q (List.mem_filter.mp hq).1
theorem lok_so2 {ls : List (Nat × Value)} {i : Nat} {v : Value} (hl : lok ls = true) (hv : okL v = true) : lok (so2 ls i v) = true := by
  unfold lok so2
  rw [List.all_cons, hv, Bool.true_and]
  exact List.all_eq_true.mpr fun q hq => List.all_eq_true.mp hl q (List.mem_filter.mp hq).1
theorem okL_okv {v : Value} {h : aH} (hv : okL v = true) (hh : 202 ≤ h.1.length) : okv h v = true := by
  cases v with
  | ref a =>
    have hv2 : (decide (a < 202) || decide (1000000 ≤ a)) = true := hv
    show (decide (a < h.1.length) || decide (1000000 ≤ a)) = true
    simp only [Bool.or_eq_true, decide_eq_true_eq] at hv2 ⊢
    exact hv2.imp (fun z => Nat.lt_of_lt_of_le z hh) id
  | _ => rfl
theorem lok_okv {ls : List (Nat × Value)} {h : aH} (hl : lok ls = true) (hh : 202 ≤ h.1.length) : (ls.all fun q => okv h q.2) = true := List.all_eq_true.mpr fun q hq => okL_okv (List.all_eq_true.mp hl q hq) hh
theorem sub_K {K : KT} {CL : CT} {ret : Option FieldType} {Q : QT} (hK : CLO CL ac9L_law ret Q K) (k : Nat) {S : AC} (hS : lawS[k]? = some S) : CLO CL S ret Q K := fun pc ls st h bc bs ⟨i, r1, r2, r3, hm, hs⟩ => hK pc ls st h bc bs ⟨i, r1, r2, r3, List.mem_flatten.mpr ⟨S, List.mem_of_getElem? hS, hm⟩, hs⟩
section LAWR
variable {K : KT} {Lx : Nat} {xs : Nat → Int32} {sh : List (Nat × Nat)}
theorem x_scr (p k : Nat) {S : AC} (hX : ∀ (pc : Nat) (ls : List (Nat × Value)) (st : List Value) (h : aH) (bc bs : Nat), lwXR Lx xs K pc ls st h bc bs → K pc ls st h bc bs) (hS : lawS[k]? = some S) {pc r1 r2 : Nat} {r3 e : Int} {ls : List (Nat × Value)} {st : List Value} {h : aH} {bc bs : Nat} (hf : fr S pc = some (.iaload, r1, r2, r3)) (hp : pc + 1 = p) (h0 : 0 ≤ e) (h1 : e < (Lx : Int)) (hk : K p ls (.int (I (xs e.toNat).toInt) :: st) h bc bs) : K pc ls (.int (I e) :: .ref 1000006 :: st) h bc bs := by
  subst hp
  exact hX _ _ _ _ _ _ (Or.inr (Or.inl ⟨r1, r2, r3, e, st, List.mem_flatten.mpr ⟨S, List.mem_of_getElem? hS, fr_mem hf⟩, rfl, h0, h1, hk⟩))
theorem x_slen (p k : Nat) {S : AC} (hX : ∀ (pc : Nat) (ls : List (Nat × Value)) (st : List Value) (h : aH) (bc bs : Nat), lwXR Lx xs K pc ls st h bc bs → K pc ls st h bc bs) (hS : lawS[k]? = some S) {pc r1 r2 : Nat} {r3 : Int} {ls : List (Nat × Value)} {st : List Value} {h : aH} {bc bs : Nat} (hf : fr S pc = some (.arraylength, r1, r2, r3)) (hp : pc + 1 = p) (hk : K p ls (.int (I (Lx : Int)) :: st) h bc bs) : K pc ls (.ref 1000006 :: st) h bc bs := by
  subst hp
  exact hX _ _ _ _ _ _ (Or.inl ⟨r1, r2, r3, st, List.mem_flatten.mpr ⟨S, List.mem_of_getElem? hS, fr_mem hf⟩, rfl, hk⟩)
theorem s0_ {b : Int} {h : aH} (hI : INV sh b h) : h.1[0]? = some (110, 17) := shx hI.1 (a := 0) (r := 0) (s := (110, 17)) (by decide +kernel) (by decide +kernel)
theorem s171g_ {h : aH} (hG : GD gE gRL sh h) : h.1[171]? = some (111, 53) := shx hG (a := 171) (r := 54) (s := (111, 53)) (by decide +kernel) (by decide +kernel)
theorem s171_ {b : Int} {h : aH} (hI : INV sh b h) : h.1[171]? = some (111, 53) := shx hI.1 (a := 171) (r := 54) (s := (111, 53)) (by decide +kernel) (by decide +kernel)
theorem s201_ {b : Int} {h : aH} (hI : INV sh b h) : h.1[201]? = some (1, 1) := shx hI.1 (a := 201) (r := 84) (s := (1, 1)) (by decide +kernel) (by decide +kernel)
theorem sl_ {b : Int} {h : aH} (hI : INV sh b h) : 202 ≤ h.1.length := (List.getElem?_eq_some_iff.mp (s201_ hI)).1
theorem wr_inv {b : Int} {h h' : aH} {R : Option Int → Prop} {rv : Option Value} (hI : INV sh b h) (hw : wrQ h R rv h') : (∃ e : Int, rv = some (.int (I e))) ∧ INV sh b h' := by
  rcases hw with ⟨-, rfl, rfl⟩ | ⟨v, -, rfl, rfl⟩
  · exact ⟨⟨_, rfl⟩, hI⟩
  · exact ⟨⟨_, rfl⟩, INV_J hI⟩
theorem wr_cr {h h' : aH} {R : Option Int → Prop} {rv : Option Value} (hC : CR h) (hw : wrQ h R rv h') : CR h' := by
  rcases hw with ⟨-, rfl, rfl⟩ | ⟨v, -, rfl, rfl⟩
  · exact hC
  · exact CR_J hC
set_option maxRecDepth 8000 in
theorem lc1 (hK : CLO (CLd SPt 310) ac9L_law (some .boolean) lwQ K) (hX : ∀ (pc : Nat) (ls : List (Nat × Value)) (st : List Value) (h : aH) (bc bs : Nat), lwXR Lx xs K pc ls st h bc bs → K pc ls st h bc bs) {t b : Int} {h : aH} {ls : List (Nat × Value)} {bc bs : Nat} (ht : 0 ≤ t ∧ t + 5 ≤ (Lx : Int)) (hL : Lx ≤ 5) (hI : INV sh b h) (hC : CR h) (hb : b ≤ 320000) (l0 : lk ls 0 = some (.ref 1000006)) (l1 : lk ls 1 = some (.ref 0)) (l2 : lk ls 2 = some (.ref 171)) (l3 : lk ls 3 = some (.ref 201)) (l4 : lk ls 4 = some (.int (I t))) (lo : lok ls = true) (hbc : 1 ≤ bc) (hbs : 6 ≤ bs)
    (hE : ∀ (ls' : List (Nat × Value)) (h' : aH) (bc' bs' : Nat), lk ls' 0 = some (.ref 1000006) → lk ls' 1 = some (.ref 0) → lk ls' 2 = some (.ref 171) → lk ls' 3 = some (.ref 201) → lk ls' 4 = some (.int (I t)) → lok ls' = true → INV sh (b + 600) h' → CRO h' → bc ≤ bc' + 1 → bs ≤ bs' + 6 → K 1694 ls' [] h' bc' bs') : K 244 ls [] h bc bs := by
  have hK := sub_K hK 1 (S := aS1) rfl
  have hmono := MONO_CLd SPt_mono 310
  refine x_aload_n 245 hK rfl rfl l1 ?_
  refine x_aload_n 246 hK rfl rfl l0 ?_
  refine x_iload 248 hK rfl rfl l4 ?_
  refine x_iconst 249 hK rfl rfl ?_
  refine x_iadd 250 hK rfl rfl ?_
  refine x_scr 251 1 hX rfl rfl rfl (by omega) (by omega) ?_
  refine x_callV 254 hK hmono rfl rfl [.ref 0, .int (I ((xs (t + 1).toNat).toInt))] [] rfl rfl (Nat.le_of_ble_eq_true rfl) (Nat.le_of_ble_eq_true rfl) rfl (s0_ hI) (pr_sign hI hC hb (r_I _)) ?_
  rintro v1 h1 ⟨e1, re1, rfl, hG1, cl1⟩
  refine x_aload_n 255 hK rfl rfl l2 ?_
  refine x_aload_n 256 hK rfl rfl l0 ?_
  refine x_iload 258 hK rfl rfl l4 ?_
  refine x_iconst 259 hK rfl rfl ?_
  refine x_iadd 260 hK rfl rfl ?_
  refine x_scr 261 1 hX rfl rfl rfl (by omega) (by omega) ?_
  refine x_callV 264 hK hmono rfl rfl [.ref 171, .int (I ((xs (t + 1).toNat).toInt))] [.int (I (e1))] rfl rfl (Nat.le_of_ble_eq_true rfl) (Nat.le_of_ble_eq_true rfl) rfl (s171g_ hG1) cl1 ?_
  rintro v2 h2 ⟨e2, re2, rfl, ee2, hI2, hC2⟩
  rw [ee2 rfl]
  refine x_if_icmp_eq 1694 267 hK rfl rfl rfl re1 re1 (fun _ => ?_) (fun c9 => absurd rfl c9)
  exact hE _ _ _ _ l0 l1 l2 l3 l4 lo (hI2.mono (by omega)) trivial (by omega) (by omega)
set_option maxRecDepth 8000 in
theorem lc2 (hK : CLO (CLd SPt 310) ac9L_law (some .boolean) lwQ K) (hX : ∀ (pc : Nat) (ls : List (Nat × Value)) (st : List Value) (h : aH) (bc bs : Nat), lwXR Lx xs K pc ls st h bc bs → K pc ls st h bc bs) {t b : Int} {h : aH} {ls : List (Nat × Value)} {bc bs : Nat} (ht : 0 ≤ t ∧ t + 5 ≤ (Lx : Int)) (hL : Lx ≤ 5) (hI : INV sh b h) (hC : CR h) (hb : b ≤ 320000) (l0 : lk ls 0 = some (.ref 1000006)) (l1 : lk ls 1 = some (.ref 0)) (l2 : lk ls 2 = some (.ref 171)) (l3 : lk ls 3 = some (.ref 201)) (l4 : lk ls 4 = some (.int (I t))) (lo : lok ls = true) (hbc : 1 ≤ bc) (hbs : 6 ≤ bs)
    (hE : ∀ (ls' : List (Nat × Value)) (h' : aH) (bc' bs' : Nat), lk ls' 0 = some (.ref 1000006) → lk ls' 1 = some (.ref 0) → lk ls' 2 = some (.ref 171) → lk ls' 3 = some (.ref 201) → lk ls' 4 = some (.int (I t)) → lok ls' = true → INV sh (b + 600) h' → CRO h' → bc ≤ bc' + 1 → bs ≤ bs' + 6 → K 1694 ls' [] h' bc' bs') : K 269 ls [] h bc bs := by
  have hK := sub_K hK 2 (S := aS2) rfl
  have hmono := MONO_CLd SPt_mono 310
  refine x_aload_n 270 hK rfl rfl l1 ?_
  refine x_aload_n 271 hK rfl rfl l0 ?_
  refine x_iload 273 hK rfl rfl l4 ?_
  refine x_iconst 274 hK rfl rfl ?_
  refine x_iadd 275 hK rfl rfl ?_
  refine x_scr 276 2 hX rfl rfl rfl (by omega) (by omega) ?_
  refine x_callV 279 hK hmono rfl rfl [.ref 0, .int (I ((xs (t + 1).toNat).toInt))] [] rfl rfl (Nat.le_of_ble_eq_true rfl) (Nat.le_of_ble_eq_true rfl) rfl (s0_ hI) (pr_end hI hC hb (r_I _)) ?_
  rintro v1 h1 ⟨e1, re1, rfl, hG1, cl1⟩
  refine x_aload_n 280 hK rfl rfl l2 ?_
  refine x_aload_n 281 hK rfl rfl l0 ?_
  refine x_iload 283 hK rfl rfl l4 ?_
  refine x_iconst 284 hK rfl rfl ?_
  refine x_iadd 285 hK rfl rfl ?_
  refine x_scr 286 2 hX rfl rfl rfl (by omega) (by omega) ?_
  refine x_callV 289 hK hmono rfl rfl [.ref 171, .int (I ((xs (t + 1).toNat).toInt))] [.int (I (e1))] rfl rfl (Nat.le_of_ble_eq_true rfl) (Nat.le_of_ble_eq_true rfl) rfl (s171g_ hG1) cl1 ?_
  rintro v2 h2 ⟨e2, re2, rfl, ee2, hI2, hC2⟩
  rw [ee2 rfl]
  refine x_if_icmp_eq 1694 292 hK rfl rfl rfl re1 re1 (fun _ => ?_) (fun c9 => absurd rfl c9)
  exact hE _ _ _ _ l0 l1 l2 l3 l4 lo (hI2.mono (by omega)) trivial (by omega) (by omega)
set_option maxRecDepth 8000 in
theorem lc3 (hK : CLO (CLd SPt 310) ac9L_law (some .boolean) lwQ K) (hX : ∀ (pc : Nat) (ls : List (Nat × Value)) (st : List Value) (h : aH) (bc bs : Nat), lwXR Lx xs K pc ls st h bc bs → K pc ls st h bc bs) {t b : Int} {h : aH} {ls : List (Nat × Value)} {bc bs : Nat} (ht : 0 ≤ t ∧ t + 5 ≤ (Lx : Int)) (hL : Lx ≤ 5) (hI : INV sh b h) (hC : CR h) (hb : b ≤ 320000) (l0 : lk ls 0 = some (.ref 1000006)) (l1 : lk ls 1 = some (.ref 0)) (l2 : lk ls 2 = some (.ref 171)) (l3 : lk ls 3 = some (.ref 201)) (l4 : lk ls 4 = some (.int (I t))) (lo : lok ls = true) (hbc : 1 ≤ bc) (hbs : 6 ≤ bs)
    (hE : ∀ (ls' : List (Nat × Value)) (h' : aH) (bc' bs' : Nat), lk ls' 0 = some (.ref 1000006) → lk ls' 1 = some (.ref 0) → lk ls' 2 = some (.ref 171) → lk ls' 3 = some (.ref 201) → lk ls' 4 = some (.int (I t)) → lok ls' = true → INV sh (b + 600) h' → CRO h' → bc ≤ bc' + 1 → bs ≤ bs' + 6 → K 1694 ls' [] h' bc' bs') : K 294 ls [] h bc bs := by
  have hK := sub_K hK 3 (S := aS3) rfl
  have hmono := MONO_CLd SPt_mono 310
  refine x_aload_n 295 hK rfl rfl l1 ?_
  refine x_callV 298 hK hmono rfl rfl [.ref 0] [] rfl rfl (Nat.le_of_ble_eq_true rfl) (Nat.le_of_ble_eq_true rfl) rfl (s0_ hI) (pr_ship hI hC hb ) ?_
  rintro v1 h1 ⟨e1, re1, rfl, hG1, cl1⟩
  refine x_aload_n 299 hK rfl rfl l2 ?_
  refine x_callV 302 hK hmono rfl rfl [.ref 171] [.int (I (e1))] rfl rfl (Nat.le_of_ble_eq_true rfl) (Nat.le_of_ble_eq_true rfl) rfl (s171g_ hG1) cl1 ?_
  rintro v2 h2 ⟨e2, re2, rfl, ee2, hI2, hC2⟩
  rw [ee2 rfl]
  refine x_if_icmp_eq 1694 305 hK rfl rfl rfl re1 re1 (fun _ => ?_) (fun c9 => absurd rfl c9)
  exact hE _ _ _ _ l0 l1 l2 l3 l4 lo (hI2.mono (by omega)) trivial (by omega) (by omega)
set_option maxRecDepth 8000 in
theorem lc4 (hK : CLO (CLd SPt 310) ac9L_law (some .boolean) lwQ K) (hX : ∀ (pc : Nat) (ls : List (Nat × Value)) (st : List Value) (h : aH) (bc bs : Nat), lwXR Lx xs K pc ls st h bc bs → K pc ls st h bc bs) {t b : Int} {h : aH} {ls : List (Nat × Value)} {bc bs : Nat} (ht : 0 ≤ t ∧ t + 5 ≤ (Lx : Int)) (hL : Lx ≤ 5) (hI : INV sh b h) (hC : CR h) (hb : b ≤ 320000) (l0 : lk ls 0 = some (.ref 1000006)) (l1 : lk ls 1 = some (.ref 0)) (l2 : lk ls 2 = some (.ref 171)) (l3 : lk ls 3 = some (.ref 201)) (l4 : lk ls 4 = some (.int (I t))) (lo : lok ls = true) (hbc : 1 ≤ bc) (hbs : 6 ≤ bs)
    (hE : ∀ (ls' : List (Nat × Value)) (h' : aH) (bc' bs' : Nat), lk ls' 0 = some (.ref 1000006) → lk ls' 1 = some (.ref 0) → lk ls' 2 = some (.ref 171) → lk ls' 3 = some (.ref 201) → lk ls' 4 = some (.int (I t)) → lok ls' = true → INV sh (b + 600) h' → CRO h' → bc ≤ bc' + 1 → bs ≤ bs' + 6 → K 1694 ls' [] h' bc' bs') : K 307 ls [] h bc bs := by
  have hK := sub_K hK 4 (S := aS4) rfl
  have hmono := MONO_CLd SPt_mono 310
  refine x_aload_n 308 hK rfl rfl l1 ?_
  refine x_callV 311 hK hmono rfl rfl [.ref 0] [] rfl rfl (Nat.le_of_ble_eq_true rfl) (Nat.le_of_ble_eq_true rfl) rfl (s0_ hI) (pr_rocks hI hC hb ) ?_
  rintro v1 h1 ⟨e1, re1, rfl, hG1, cl1⟩
  refine x_aload_n 312 hK rfl rfl l2 ?_
  refine x_callV 315 hK hmono rfl rfl [.ref 171] [.int (I (e1))] rfl rfl (Nat.le_of_ble_eq_true rfl) (Nat.le_of_ble_eq_true rfl) rfl (s171g_ hG1) cl1 ?_
  rintro v2 h2 ⟨e2, re2, rfl, ee2, hI2, hC2⟩
  rw [ee2 rfl]
  refine x_if_icmp_eq 1694 318 hK rfl rfl rfl re1 re1 (fun _ => ?_) (fun c9 => absurd rfl c9)
  exact hE _ _ _ _ l0 l1 l2 l3 l4 lo (hI2.mono (by omega)) trivial (by omega) (by omega)
set_option maxRecDepth 8000 in
theorem lc5 (hK : CLO (CLd SPt 310) ac9L_law (some .boolean) lwQ K) (hX : ∀ (pc : Nat) (ls : List (Nat × Value)) (st : List Value) (h : aH) (bc bs : Nat), lwXR Lx xs K pc ls st h bc bs → K pc ls st h bc bs) {t b : Int} {h : aH} {ls : List (Nat × Value)} {bc bs : Nat} (ht : 0 ≤ t ∧ t + 5 ≤ (Lx : Int)) (hL : Lx ≤ 5) (hI : INV sh b h) (hC : CR h) (hb : b ≤ 320000) (l0 : lk ls 0 = some (.ref 1000006)) (l1 : lk ls 1 = some (.ref 0)) (l2 : lk ls 2 = some (.ref 171)) (l3 : lk ls 3 = some (.ref 201)) (l4 : lk ls 4 = some (.int (I t))) (lo : lok ls = true) (hbc : 1 ≤ bc) (hbs : 6 ≤ bs)
    (hE : ∀ (ls' : List (Nat × Value)) (h' : aH) (bc' bs' : Nat), lk ls' 0 = some (.ref 1000006) → lk ls' 1 = some (.ref 0) → lk ls' 2 = some (.ref 171) → lk ls' 3 = some (.ref 201) → lk ls' 4 = some (.int (I t)) → lok ls' = true → INV sh (b + 600) h' → CRO h' → bc ≤ bc' + 1 → bs ≤ bs' + 6 → K 1694 ls' [] h' bc' bs') : K 320 ls [] h bc bs := by
  have hK := sub_K hK 5 (S := aS5) rfl
  have hmono := MONO_CLd SPt_mono 310
  refine x_aload_n 321 hK rfl rfl l1 ?_
  refine x_callV 324 hK hmono rfl rfl [.ref 0] [] rfl rfl (Nat.le_of_ble_eq_true rfl) (Nat.le_of_ble_eq_true rfl) rfl (s0_ hI) (pr_messes hI hC hb ) ?_
  rintro v1 h1 ⟨e1, re1, rfl, hG1, cl1⟩
  refine x_aload_n 325 hK rfl rfl l2 ?_
  refine x_callV 328 hK hmono rfl rfl [.ref 171] [.int (I (e1))] rfl rfl (Nat.le_of_ble_eq_true rfl) (Nat.le_of_ble_eq_true rfl) rfl (s171g_ hG1) cl1 ?_
  rintro v2 h2 ⟨e2, re2, rfl, ee2, hI2, hC2⟩
  rw [ee2 rfl]
  refine x_if_icmp_eq 1694 331 hK rfl rfl rfl re1 re1 (fun _ => ?_) (fun c9 => absurd rfl c9)
  exact hE _ _ _ _ l0 l1 l2 l3 l4 lo (hI2.mono (by omega)) trivial (by omega) (by omega)
set_option maxRecDepth 8000 in
theorem lc6 (hK : CLO (CLd SPt 310) ac9L_law (some .boolean) lwQ K) (hX : ∀ (pc : Nat) (ls : List (Nat × Value)) (st : List Value) (h : aH) (bc bs : Nat), lwXR Lx xs K pc ls st h bc bs → K pc ls st h bc bs) {t b : Int} {h : aH} {ls : List (Nat × Value)} {bc bs : Nat} (ht : 0 ≤ t ∧ t + 5 ≤ (Lx : Int)) (hL : Lx ≤ 5) (hI : INV sh b h) (hC : CR h) (hb : b ≤ 320000) (l0 : lk ls 0 = some (.ref 1000006)) (l1 : lk ls 1 = some (.ref 0)) (l2 : lk ls 2 = some (.ref 171)) (l3 : lk ls 3 = some (.ref 201)) (l4 : lk ls 4 = some (.int (I t))) (lo : lok ls = true) (hbc : 1 ≤ bc) (hbs : 6 ≤ bs)
    (hE : ∀ (ls' : List (Nat × Value)) (h' : aH) (bc' bs' : Nat), lk ls' 0 = some (.ref 1000006) → lk ls' 1 = some (.ref 0) → lk ls' 2 = some (.ref 171) → lk ls' 3 = some (.ref 201) → lk ls' 4 = some (.int (I t)) → lok ls' = true → INV sh (b + 600) h' → CRO h' → bc ≤ bc' + 1 → bs ≤ bs' + 6 → K 1694 ls' [] h' bc' bs') : K 333 ls [] h bc bs := by
  have hK := sub_K hK 6 (S := aS6) rfl
  have hmono := MONO_CLd SPt_mono 310
  refine x_aload_n 334 hK rfl rfl l1 ?_
  refine x_callV 337 hK hmono rfl rfl [.ref 0] [] rfl rfl (Nat.le_of_ble_eq_true rfl) (Nat.le_of_ble_eq_true rfl) rfl (s0_ hI) (pr_rule hI hC hb ) ?_
  rintro v1 h1 ⟨e1, re1, rfl, hG1, cl1⟩
  refine x_aload_n 338 hK rfl rfl l2 ?_
  refine x_callV 341 hK hmono rfl rfl [.ref 171] [.int (I (e1))] rfl rfl (Nat.le_of_ble_eq_true rfl) (Nat.le_of_ble_eq_true rfl) rfl (s171g_ hG1) cl1 ?_
  rintro v2 h2 ⟨e2, re2, rfl, ee2, hI2, hC2⟩
  rw [ee2 rfl]
  refine x_if_icmp_eq 1694 344 hK rfl rfl rfl re1 re1 (fun _ => ?_) (fun c9 => absurd rfl c9)
  exact hE _ _ _ _ l0 l1 l2 l3 l4 lo (hI2.mono (by omega)) trivial (by omega) (by omega)
set_option maxRecDepth 8000 in
theorem lc7 (hK : CLO (CLd SPt 310) ac9L_law (some .boolean) lwQ K) (hX : ∀ (pc : Nat) (ls : List (Nat × Value)) (st : List Value) (h : aH) (bc bs : Nat), lwXR Lx xs K pc ls st h bc bs → K pc ls st h bc bs) {t b : Int} {h : aH} {ls : List (Nat × Value)} {bc bs : Nat} (ht : 0 ≤ t ∧ t + 5 ≤ (Lx : Int)) (hL : Lx ≤ 5) (hI : INV sh b h) (hC : CR h) (hb : b ≤ 320000) (l0 : lk ls 0 = some (.ref 1000006)) (l1 : lk ls 1 = some (.ref 0)) (l2 : lk ls 2 = some (.ref 171)) (l3 : lk ls 3 = some (.ref 201)) (l4 : lk ls 4 = some (.int (I t))) (lo : lok ls = true) (hbc : 1 ≤ bc) (hbs : 6 ≤ bs)
    (hE : ∀ (ls' : List (Nat × Value)) (h' : aH) (bc' bs' : Nat), lk ls' 0 = some (.ref 1000006) → lk ls' 1 = some (.ref 0) → lk ls' 2 = some (.ref 171) → lk ls' 3 = some (.ref 201) → lk ls' 4 = some (.int (I t)) → lok ls' = true → INV sh (b + 600) h' → CRO h' → bc ≤ bc' + 1 → bs ≤ bs' + 6 → K 1694 ls' [] h' bc' bs') : K 346 ls [] h bc bs := by
  have hK := sub_K hK 7 (S := aS7) rfl
  have hmono := MONO_CLd SPt_mono 310
  refine x_aload_n 347 hK rfl rfl l1 ?_
  refine x_aload_n 348 hK rfl rfl l0 ?_
  refine x_iload 350 hK rfl rfl l4 ?_
  refine x_iconst 351 hK rfl rfl ?_
  refine x_iadd 352 hK rfl rfl ?_
  refine x_scr 353 7 hX rfl rfl rfl (by omega) (by omega) ?_
  refine x_aload_n 354 hK rfl rfl l0 ?_
  refine x_iload 356 hK rfl rfl l4 ?_
  refine x_iconst 357 hK rfl rfl ?_
  refine x_iadd 358 hK rfl rfl ?_
  refine x_scr 359 7 hX rfl rfl rfl (by omega) (by omega) ?_
  refine x_aload_n 360 hK rfl rfl l3 ?_
  refine hX _ _ _ _ _ _ (Or.inr (Or.inr (Or.inl ⟨rfl, sh, _, _, hI.1, s201_ hI, r_I _, r_I _, rfl, lok_okv lo (sl_ hI), hbc, hbs, fun v1 h1 hw => ?_⟩)))
  rcases hw with ⟨hR1, rfl, rfl⟩ | ⟨w1, hR1, rfl, rfl⟩
  · refine x_istore 365 hK rfl rfl _ rfl ?_
    have m2x0 := lk1_n (i := 5) (v := .int (I (1))) l0 (by decide) (Or.inl rfl)
    have m2x1 := lk1_n (i := 5) (v := .int (I (1))) l1 (by decide) (Or.inl rfl)
    have m2x2 := lk1_n (i := 5) (v := .int (I (1))) l2 (by decide) (Or.inl rfl)
    have m2x3 := lk1_n (i := 5) (v := .int (I (1))) l3 (by decide) (Or.inl rfl)
    have m2x4 := lk1_n (i := 5) (v := .int (I (1))) l4 (by decide) (Or.inl rfl)
    have m2x5 : lk (so1 ls 5 (.int (I (1)))) 5 = some (.int (I (1))) := lk1_s
    have lo2 := lok_so1 (i := 5) (v := .int (I (1))) lo rfl
    refine x_aload_n 366 hK rfl rfl m2x2 ?_
    refine x_aload_n 367 hK rfl rfl m2x0 ?_
    refine x_iload 369 hK rfl rfl m2x4 ?_
    refine x_iconst 370 hK rfl rfl ?_
    refine x_iadd 371 hK rfl rfl ?_
    refine x_scr 372 7 hX rfl rfl rfl (by omega) (by omega) ?_
    refine x_aload_n 373 hK rfl rfl m2x0 ?_
    refine x_iload 375 hK rfl rfl m2x4 ?_
    refine x_iconst 376 hK rfl rfl ?_
    refine x_iadd 377 hK rfl rfl ?_
    refine x_scr 378 7 hX rfl rfl rfl (by omega) (by omega) ?_
    refine x_callV 381 hK hmono rfl rfl [.ref 171, .int (I ((xs (t + 1).toNat).toInt)), .int (I ((xs (t + 2).toNat).toInt))] [] rfl rfl (Nat.le_of_ble_eq_true rfl) (Nat.le_of_ble_eq_true rfl) rfl (s171_ hI) (pw_post hI hC (r_I _) (r_I _) hR1) ?_
    rintro v3 h3 ⟨e3, re3, rfl, tn3, tv3, hI3, hC3, hj3⟩
    have t3 := tn3 rfl
    refine x_istore 383 hK rfl rfl _ rfl ?_
    have m4x0 := lk1_n (i := 6) (v := .int (I (e3))) m2x0 (by decide) (Or.inl rfl)
    have m4x1 := lk1_n (i := 6) (v := .int (I (e3))) m2x1 (by decide) (Or.inl rfl)
    have m4x2 := lk1_n (i := 6) (v := .int (I (e3))) m2x2 (by decide) (Or.inl rfl)
    have m4x3 := lk1_n (i := 6) (v := .int (I (e3))) m2x3 (by decide) (Or.inl rfl)
    have m4x4 := lk1_n (i := 6) (v := .int (I (e3))) m2x4 (by decide) (Or.inl rfl)
    have m4x5 := lk1_n (i := 6) (v := .int (I (e3))) m2x5 (by decide) (Or.inl rfl)
    have m4x6 : lk (so1 (so1 ls 5 (.int (I (1)))) 6 (.int (I (e3)))) 6 = some (.int (I (e3))) := lk1_s
    have lo4 := lok_so1 (i := 6) (v := .int (I (e3))) lo2 rfl
    refine x_aload_n 384 hK rfl rfl m4x2 ?_
    refine x_callV 387 hK hmono rfl rfl [.ref 171] [] rfl rfl (Nat.le_of_ble_eq_true rfl) (Nat.le_of_ble_eq_true rfl) rfl (s171_ hI3) (CLd_le (Nat.le_of_ble_eq_true rfl) (ctX11_thrown SPt_mono hI3.1)) ?_
    rintro v5 h5 ⟨rfl, rfl⟩
    rw [t3]
    refine x_iload 389 hK rfl rfl m4x5 ?_
    refine x_if_icmp_eq 394 392 hK rfl rfl rfl (by omega) (by omega) (fun _ => ?_) (fun c9 => absurd (by decide) c9)
    refine x_iload 396 hK rfl rfl m4x5 ?_
    refine x_if_ne 411 399 hK rfl rfl rfl (by omega) (fun _ => ?_) (fun c9 => absurd (by decide) c9)
    refine x_goto 1694 hK rfl rfl ?_
    exact hE _ _ _ _ m4x0 m4x1 m4x2 m4x3 m4x4 lo4 (hI3.mono (by omega)) trivial (by omega) (by omega)
  · have hI1 := INV_J (a := 201) (k := 0) (v := J w1) hI
    have hC1 := CR_J (v := J w1) hC
    refine x_istore 365 hK rfl rfl _ rfl ?_
    have m6x0 := lk1_n (i := 5) (v := .int (I (0))) l0 (by decide) (Or.inl rfl)
    have m6x1 := lk1_n (i := 5) (v := .int (I (0))) l1 (by decide) (Or.inl rfl)
    have m6x2 := lk1_n (i := 5) (v := .int (I (0))) l2 (by decide) (Or.inl rfl)
    have m6x3 := lk1_n (i := 5) (v := .int (I (0))) l3 (by decide) (Or.inl rfl)
    have m6x4 := lk1_n (i := 5) (v := .int (I (0))) l4 (by decide) (Or.inl rfl)
    have m6x5 : lk (so1 ls 5 (.int (I (0)))) 5 = some (.int (I (0))) := lk1_s
    have lo6 := lok_so1 (i := 5) (v := .int (I (0))) lo rfl
    refine x_aload_n 366 hK rfl rfl m6x2 ?_
    refine x_aload_n 367 hK rfl rfl m6x0 ?_
    refine x_iload 369 hK rfl rfl m6x4 ?_
    refine x_iconst 370 hK rfl rfl ?_
    refine x_iadd 371 hK rfl rfl ?_
    refine x_scr 372 7 hX rfl rfl rfl (by omega) (by omega) ?_
    refine x_aload_n 373 hK rfl rfl m6x0 ?_
    refine x_iload 375 hK rfl rfl m6x4 ?_
    refine x_iconst 376 hK rfl rfl ?_
    refine x_iadd 377 hK rfl rfl ?_
    refine x_scr 378 7 hX rfl rfl rfl (by omega) (by omega) ?_
    refine x_callV 381 hK hmono rfl rfl [.ref 171, .int (I ((xs (t + 1).toNat).toInt)), .int (I ((xs (t + 2).toNat).toInt))] [] rfl rfl (Nat.le_of_ble_eq_true rfl) (Nat.le_of_ble_eq_true rfl) rfl (s171_ hI1) (pw_post hI1 hC1 (r_I _) (r_I _) hR1) ?_
    rintro v7 h7 ⟨e7, re7, rfl, tn7, tv7, hI7, hC7, hj7⟩
    obtain ⟨t7, ev7⟩ := tv7 _ rfl
    have q7 : r64 e7 := by omega
    have jj7 : (aJ h7 201 0).toInt = e7 := hj7.trans (by rw [ev7]; exact gj_same q7)
    refine x_istore 383 hK rfl rfl _ rfl ?_
    have m8x0 := lk1_n (i := 6) (v := .int (I (e7))) m6x0 (by decide) (Or.inl rfl)
    have m8x1 := lk1_n (i := 6) (v := .int (I (e7))) m6x1 (by decide) (Or.inl rfl)
    have m8x2 := lk1_n (i := 6) (v := .int (I (e7))) m6x2 (by decide) (Or.inl rfl)
    have m8x3 := lk1_n (i := 6) (v := .int (I (e7))) m6x3 (by decide) (Or.inl rfl)
    have m8x4 := lk1_n (i := 6) (v := .int (I (e7))) m6x4 (by decide) (Or.inl rfl)
    have m8x5 := lk1_n (i := 6) (v := .int (I (e7))) m6x5 (by decide) (Or.inl rfl)
    have m8x6 : lk (so1 (so1 ls 5 (.int (I (0)))) 6 (.int (I (e7)))) 6 = some (.int (I (e7))) := lk1_s
    have lo8 := lok_so1 (i := 6) (v := .int (I (e7))) lo6 rfl
    refine x_aload_n 384 hK rfl rfl m8x2 ?_
    refine x_callV 387 hK hmono rfl rfl [.ref 171] [] rfl rfl (Nat.le_of_ble_eq_true rfl) (Nat.le_of_ble_eq_true rfl) rfl (s171_ hI7) (CLd_le (Nat.le_of_ble_eq_true rfl) (ctX11_thrown SPt_mono hI7.1)) ?_
    rintro v9 h9 ⟨rfl, rfl⟩
    rw [t7]
    refine x_iload 389 hK rfl rfl m8x5 ?_
    refine x_if_icmp_eq 394 392 hK rfl rfl rfl (by omega) (by omega) (fun _ => ?_) (fun c9 => absurd (by decide) c9)
    refine x_iload 396 hK rfl rfl m8x5 ?_
    refine x_if_ne 411 399 hK rfl rfl rfl (by omega) (fun c9 => absurd c9 (by decide)) (fun _ => ?_)
    refine x_aload_n 400 hK rfl rfl m8x3 ?_
    refine x_iconst 401 hK rfl rfl ?_
    refine x_laload (n := 1) 402 hK rfl rfl (s201_ hI7) (by omega) (by omega) (by omega) ?_
    rw [show (0 : Int).toNat = 0 from rfl, jj7]
    refine x_iload 404 hK rfl rfl m8x6 ?_
    refine x_i2l 405 hK rfl rfl re7 ?_
    refine x_lcmp 406 hK rfl rfl q7 q7 ?_
    rw [if_neg (Int.lt_irrefl _), if_neg (Int.lt_irrefl _)]
    refine x_if_eq 411 409 hK rfl rfl rfl (by omega) (fun _ => ?_) (fun c9 => absurd (by decide) c9)
    refine x_goto 1694 hK rfl rfl ?_
    exact hE _ _ _ _ m8x0 m8x1 m8x2 m8x3 m8x4 lo8 (hI7.mono (by omega)) trivial (by omega) (by omega)
set_option maxRecDepth 8000 in
theorem lc8 (hK : CLO (CLd SPt 310) ac9L_law (some .boolean) lwQ K) (hX : ∀ (pc : Nat) (ls : List (Nat × Value)) (st : List Value) (h : aH) (bc bs : Nat), lwXR Lx xs K pc ls st h bc bs → K pc ls st h bc bs) {t b : Int} {h : aH} {ls : List (Nat × Value)} {bc bs : Nat} (ht : 0 ≤ t ∧ t + 5 ≤ (Lx : Int)) (hL : Lx ≤ 5) (hI : INV sh b h) (hC : CR h) (hb : b ≤ 320000) (l0 : lk ls 0 = some (.ref 1000006)) (l1 : lk ls 1 = some (.ref 0)) (l2 : lk ls 2 = some (.ref 171)) (l3 : lk ls 3 = some (.ref 201)) (l4 : lk ls 4 = some (.int (I t))) (lo : lok ls = true) (hbc : 1 ≤ bc) (hbs : 6 ≤ bs)
    (hE : ∀ (ls' : List (Nat × Value)) (h' : aH) (bc' bs' : Nat), lk ls' 0 = some (.ref 1000006) → lk ls' 1 = some (.ref 0) → lk ls' 2 = some (.ref 171) → lk ls' 3 = some (.ref 201) → lk ls' 4 = some (.int (I t)) → lok ls' = true → INV sh (b + 600) h' → CRO h' → bc ≤ bc' + 1 → bs ≤ bs' + 6 → K 1694 ls' [] h' bc' bs') : K 414 ls [] h bc bs := by
  have hK := sub_K hK 8 (S := aS8) rfl
  have hmono := MONO_CLd SPt_mono 310
  refine x_aload_n 415 hK rfl rfl l1 ?_
  refine x_aload_n 416 hK rfl rfl l0 ?_
  refine x_iload 418 hK rfl rfl l4 ?_
  refine x_iconst 419 hK rfl rfl ?_
  refine x_iadd 420 hK rfl rfl ?_
  refine x_scr 421 8 hX rfl rfl rfl (by omega) (by omega) ?_
  refine x_aload_n 422 hK rfl rfl l0 ?_
  refine x_iload 424 hK rfl rfl l4 ?_
  refine x_iconst 425 hK rfl rfl ?_
  refine x_iadd 426 hK rfl rfl ?_
  refine x_scr 427 8 hX rfl rfl rfl (by omega) (by omega) ?_
  refine x_aload_n 428 hK rfl rfl l3 ?_
  refine hX _ _ _ _ _ _ (Or.inr (Or.inr (Or.inr (Or.inl ⟨rfl, sh, _, _, hI.1, s201_ hI, r_I _, r_I _, rfl, lok_okv lo (sl_ hI), hbc, hbs, fun v1 h1 hw => ?_⟩))))
  rcases hw with ⟨hR1, rfl, rfl⟩ | ⟨w1, hR1, rfl, rfl⟩
  · refine x_istore 433 hK rfl rfl _ rfl ?_
    have m2x0 := lk1_n (i := 5) (v := .int (I (1))) l0 (by decide) (Or.inl rfl)
    have m2x1 := lk1_n (i := 5) (v := .int (I (1))) l1 (by decide) (Or.inl rfl)
    have m2x2 := lk1_n (i := 5) (v := .int (I (1))) l2 (by decide) (Or.inl rfl)
    have m2x3 := lk1_n (i := 5) (v := .int (I (1))) l3 (by decide) (Or.inl rfl)
    have m2x4 := lk1_n (i := 5) (v := .int (I (1))) l4 (by decide) (Or.inl rfl)
    have m2x5 : lk (so1 ls 5 (.int (I (1)))) 5 = some (.int (I (1))) := lk1_s
    have lo2 := lok_so1 (i := 5) (v := .int (I (1))) lo rfl
    refine x_aload_n 434 hK rfl rfl m2x2 ?_
    refine x_aload_n 435 hK rfl rfl m2x0 ?_
    refine x_iload 437 hK rfl rfl m2x4 ?_
    refine x_iconst 438 hK rfl rfl ?_
    refine x_iadd 439 hK rfl rfl ?_
    refine x_scr 440 8 hX rfl rfl rfl (by omega) (by omega) ?_
    refine x_aload_n 441 hK rfl rfl m2x0 ?_
    refine x_iload 443 hK rfl rfl m2x4 ?_
    refine x_iconst 444 hK rfl rfl ?_
    refine x_iadd 445 hK rfl rfl ?_
    refine x_scr 446 8 hX rfl rfl rfl (by omega) (by omega) ?_
    refine x_callV 449 hK hmono rfl rfl [.ref 171, .int (I ((xs (t + 1).toNat).toInt)), .int (I ((xs (t + 2).toNat).toInt))] [] rfl rfl (Nat.le_of_ble_eq_true rfl) (Nat.le_of_ble_eq_true rfl) rfl (s171_ hI) (pw_rock hI hC (r_I _) (r_I _) hR1) ?_
    rintro v3 h3 ⟨e3, re3, rfl, tn3, tv3, hI3, hC3, hj3⟩
    have t3 := tn3 rfl
    refine x_istore 451 hK rfl rfl _ rfl ?_
    have m4x0 := lk1_n (i := 6) (v := .int (I (e3))) m2x0 (by decide) (Or.inl rfl)
    have m4x1 := lk1_n (i := 6) (v := .int (I (e3))) m2x1 (by decide) (Or.inl rfl)
    have m4x2 := lk1_n (i := 6) (v := .int (I (e3))) m2x2 (by decide) (Or.inl rfl)
    have m4x3 := lk1_n (i := 6) (v := .int (I (e3))) m2x3 (by decide) (Or.inl rfl)
    have m4x4 := lk1_n (i := 6) (v := .int (I (e3))) m2x4 (by decide) (Or.inl rfl)
    have m4x5 := lk1_n (i := 6) (v := .int (I (e3))) m2x5 (by decide) (Or.inl rfl)
    have m4x6 : lk (so1 (so1 ls 5 (.int (I (1)))) 6 (.int (I (e3)))) 6 = some (.int (I (e3))) := lk1_s
    have lo4 := lok_so1 (i := 6) (v := .int (I (e3))) lo2 rfl
    refine x_aload_n 452 hK rfl rfl m4x2 ?_
    refine x_callV 455 hK hmono rfl rfl [.ref 171] [] rfl rfl (Nat.le_of_ble_eq_true rfl) (Nat.le_of_ble_eq_true rfl) rfl (s171_ hI3) (CLd_le (Nat.le_of_ble_eq_true rfl) (ctX11_thrown SPt_mono hI3.1)) ?_
    rintro v5 h5 ⟨rfl, rfl⟩
    rw [t3]
    refine x_iload 457 hK rfl rfl m4x5 ?_
    refine x_if_icmp_eq 462 460 hK rfl rfl rfl (by omega) (by omega) (fun _ => ?_) (fun c9 => absurd (by decide) c9)
    refine x_iload 464 hK rfl rfl m4x5 ?_
    refine x_if_ne 479 467 hK rfl rfl rfl (by omega) (fun _ => ?_) (fun c9 => absurd (by decide) c9)
    refine x_goto 1694 hK rfl rfl ?_
    exact hE _ _ _ _ m4x0 m4x1 m4x2 m4x3 m4x4 lo4 (hI3.mono (by omega)) trivial (by omega) (by omega)
  · have hI1 := INV_J (a := 201) (k := 0) (v := J w1) hI
    have hC1 := CR_J (v := J w1) hC
    refine x_istore 433 hK rfl rfl _ rfl ?_
    have m6x0 := lk1_n (i := 5) (v := .int (I (0))) l0 (by decide) (Or.inl rfl)
    have m6x1 := lk1_n (i := 5) (v := .int (I (0))) l1 (by decide) (Or.inl rfl)
    have m6x2 := lk1_n (i := 5) (v := .int (I (0))) l2 (by decide) (Or.inl rfl)
    have m6x3 := lk1_n (i := 5) (v := .int (I (0))) l3 (by decide) (Or.inl rfl)
    have m6x4 := lk1_n (i := 5) (v := .int (I (0))) l4 (by decide) (Or.inl rfl)
    have m6x5 : lk (so1 ls 5 (.int (I (0)))) 5 = some (.int (I (0))) := lk1_s
    have lo6 := lok_so1 (i := 5) (v := .int (I (0))) lo rfl
    refine x_aload_n 434 hK rfl rfl m6x2 ?_
    refine x_aload_n 435 hK rfl rfl m6x0 ?_
    refine x_iload 437 hK rfl rfl m6x4 ?_
    refine x_iconst 438 hK rfl rfl ?_
    refine x_iadd 439 hK rfl rfl ?_
    refine x_scr 440 8 hX rfl rfl rfl (by omega) (by omega) ?_
    refine x_aload_n 441 hK rfl rfl m6x0 ?_
    refine x_iload 443 hK rfl rfl m6x4 ?_
    refine x_iconst 444 hK rfl rfl ?_
    refine x_iadd 445 hK rfl rfl ?_
    refine x_scr 446 8 hX rfl rfl rfl (by omega) (by omega) ?_
    refine x_callV 449 hK hmono rfl rfl [.ref 171, .int (I ((xs (t + 1).toNat).toInt)), .int (I ((xs (t + 2).toNat).toInt))] [] rfl rfl (Nat.le_of_ble_eq_true rfl) (Nat.le_of_ble_eq_true rfl) rfl (s171_ hI1) (pw_rock hI1 hC1 (r_I _) (r_I _) hR1) ?_
    rintro v7 h7 ⟨e7, re7, rfl, tn7, tv7, hI7, hC7, hj7⟩
    obtain ⟨t7, ev7⟩ := tv7 _ rfl
    have q7 : r64 e7 := by omega
    have jj7 : (aJ h7 201 0).toInt = e7 := hj7.trans (by rw [ev7]; exact gj_same q7)
    refine x_istore 451 hK rfl rfl _ rfl ?_
    have m8x0 := lk1_n (i := 6) (v := .int (I (e7))) m6x0 (by decide) (Or.inl rfl)
    have m8x1 := lk1_n (i := 6) (v := .int (I (e7))) m6x1 (by decide) (Or.inl rfl)
    have m8x2 := lk1_n (i := 6) (v := .int (I (e7))) m6x2 (by decide) (Or.inl rfl)
    have m8x3 := lk1_n (i := 6) (v := .int (I (e7))) m6x3 (by decide) (Or.inl rfl)
    have m8x4 := lk1_n (i := 6) (v := .int (I (e7))) m6x4 (by decide) (Or.inl rfl)
    have m8x5 := lk1_n (i := 6) (v := .int (I (e7))) m6x5 (by decide) (Or.inl rfl)
    have m8x6 : lk (so1 (so1 ls 5 (.int (I (0)))) 6 (.int (I (e7)))) 6 = some (.int (I (e7))) := lk1_s
    have lo8 := lok_so1 (i := 6) (v := .int (I (e7))) lo6 rfl
    refine x_aload_n 452 hK rfl rfl m8x2 ?_
    refine x_callV 455 hK hmono rfl rfl [.ref 171] [] rfl rfl (Nat.le_of_ble_eq_true rfl) (Nat.le_of_ble_eq_true rfl) rfl (s171_ hI7) (CLd_le (Nat.le_of_ble_eq_true rfl) (ctX11_thrown SPt_mono hI7.1)) ?_
    rintro v9 h9 ⟨rfl, rfl⟩
    rw [t7]
    refine x_iload 457 hK rfl rfl m8x5 ?_
    refine x_if_icmp_eq 462 460 hK rfl rfl rfl (by omega) (by omega) (fun _ => ?_) (fun c9 => absurd (by decide) c9)
    refine x_iload 464 hK rfl rfl m8x5 ?_
    refine x_if_ne 479 467 hK rfl rfl rfl (by omega) (fun c9 => absurd c9 (by decide)) (fun _ => ?_)
    refine x_aload_n 468 hK rfl rfl m8x3 ?_
    refine x_iconst 469 hK rfl rfl ?_
    refine x_laload (n := 1) 470 hK rfl rfl (s201_ hI7) (by omega) (by omega) (by omega) ?_
    rw [show (0 : Int).toNat = 0 from rfl, jj7]
    refine x_iload 472 hK rfl rfl m8x6 ?_
    refine x_i2l 473 hK rfl rfl re7 ?_
    refine x_lcmp 474 hK rfl rfl q7 q7 ?_
    rw [if_neg (Int.lt_irrefl _), if_neg (Int.lt_irrefl _)]
    refine x_if_eq 479 477 hK rfl rfl rfl (by omega) (fun _ => ?_) (fun c9 => absurd (by decide) c9)
    refine x_goto 1694 hK rfl rfl ?_
    exact hE _ _ _ _ m8x0 m8x1 m8x2 m8x3 m8x4 lo8 (hI7.mono (by omega)) trivial (by omega) (by omega)
set_option maxRecDepth 8000 in
theorem lc9 (hK : CLO (CLd SPt 310) ac9L_law (some .boolean) lwQ K) (hX : ∀ (pc : Nat) (ls : List (Nat × Value)) (st : List Value) (h : aH) (bc bs : Nat), lwXR Lx xs K pc ls st h bc bs → K pc ls st h bc bs) {t b : Int} {h : aH} {ls : List (Nat × Value)} {bc bs : Nat} (ht : 0 ≤ t ∧ t + 5 ≤ (Lx : Int)) (hL : Lx ≤ 5) (hI : INV sh b h) (hC : CR h) (hb : b ≤ 320000) (l0 : lk ls 0 = some (.ref 1000006)) (l1 : lk ls 1 = some (.ref 0)) (l2 : lk ls 2 = some (.ref 171)) (l3 : lk ls 3 = some (.ref 201)) (l4 : lk ls 4 = some (.int (I t))) (lo : lok ls = true) (hbc : 1 ≤ bc) (hbs : 6 ≤ bs)
    (hE : ∀ (ls' : List (Nat × Value)) (h' : aH) (bc' bs' : Nat), lk ls' 0 = some (.ref 1000006) → lk ls' 1 = some (.ref 0) → lk ls' 2 = some (.ref 171) → lk ls' 3 = some (.ref 201) → lk ls' 4 = some (.int (I t)) → lok ls' = true → INV sh (b + 600) h' → CRO h' → bc ≤ bc' + 1 → bs ≤ bs' + 6 → K 1694 ls' [] h' bc' bs') : K 482 ls [] h bc bs := by
  have hK := sub_K hK 9 (S := aS9) rfl
  have hmono := MONO_CLd SPt_mono 310
  refine x_aload_n 483 hK rfl rfl l1 ?_
  refine x_aload_n 484 hK rfl rfl l0 ?_
  refine x_iload 486 hK rfl rfl l4 ?_
  refine x_iconst 487 hK rfl rfl ?_
  refine x_iadd 488 hK rfl rfl ?_
  refine x_scr 489 9 hX rfl rfl rfl (by omega) (by omega) ?_
  refine x_aload_n 490 hK rfl rfl l0 ?_
  refine x_iload 492 hK rfl rfl l4 ?_
  refine x_iconst 493 hK rfl rfl ?_
  refine x_iadd 494 hK rfl rfl ?_
  refine x_scr 495 9 hX rfl rfl rfl (by omega) (by omega) ?_
  refine x_aload_n 496 hK rfl rfl l3 ?_
  refine hX _ _ _ _ _ _ (Or.inr (Or.inr (Or.inr (Or.inr (Or.inl ⟨rfl, sh, _, _, hI.1, s201_ hI, r_I _, r_I _, rfl, lok_okv lo (sl_ hI), hbc, hbs, fun v1 h1 hw => ?_⟩)))))
  rcases hw with ⟨hR1, rfl, rfl⟩ | ⟨w1, hR1, rfl, rfl⟩
  · refine x_istore 501 hK rfl rfl _ rfl ?_
    have m2x0 := lk1_n (i := 5) (v := .int (I (1))) l0 (by decide) (Or.inl rfl)
    have m2x1 := lk1_n (i := 5) (v := .int (I (1))) l1 (by decide) (Or.inl rfl)
    have m2x2 := lk1_n (i := 5) (v := .int (I (1))) l2 (by decide) (Or.inl rfl)
    have m2x3 := lk1_n (i := 5) (v := .int (I (1))) l3 (by decide) (Or.inl rfl)
    have m2x4 := lk1_n (i := 5) (v := .int (I (1))) l4 (by decide) (Or.inl rfl)
    have m2x5 : lk (so1 ls 5 (.int (I (1)))) 5 = some (.int (I (1))) := lk1_s
    have lo2 := lok_so1 (i := 5) (v := .int (I (1))) lo rfl
    refine x_aload_n 502 hK rfl rfl m2x2 ?_
    refine x_aload_n 503 hK rfl rfl m2x0 ?_
    refine x_iload 505 hK rfl rfl m2x4 ?_
    refine x_iconst 506 hK rfl rfl ?_
    refine x_iadd 507 hK rfl rfl ?_
    refine x_scr 508 9 hX rfl rfl rfl (by omega) (by omega) ?_
    refine x_aload_n 509 hK rfl rfl m2x0 ?_
    refine x_iload 511 hK rfl rfl m2x4 ?_
    refine x_iconst 512 hK rfl rfl ?_
    refine x_iadd 513 hK rfl rfl ?_
    refine x_scr 514 9 hX rfl rfl rfl (by omega) (by omega) ?_
    refine x_callV 517 hK hmono rfl rfl [.ref 171, .int (I ((xs (t + 1).toNat).toInt)), .int (I ((xs (t + 2).toNat).toInt))] [] rfl rfl (Nat.le_of_ble_eq_true rfl) (Nat.le_of_ble_eq_true rfl) rfl (s171_ hI) (pw_mess hI hC (r_I _) (r_I _) hR1) ?_
    rintro v3 h3 ⟨e3, re3, rfl, tn3, tv3, hI3, hC3, hj3⟩
    have t3 := tn3 rfl
    refine x_istore 519 hK rfl rfl _ rfl ?_
    have m4x0 := lk1_n (i := 6) (v := .int (I (e3))) m2x0 (by decide) (Or.inl rfl)
    have m4x1 := lk1_n (i := 6) (v := .int (I (e3))) m2x1 (by decide) (Or.inl rfl)
    have m4x2 := lk1_n (i := 6) (v := .int (I (e3))) m2x2 (by decide) (Or.inl rfl)
    have m4x3 := lk1_n (i := 6) (v := .int (I (e3))) m2x3 (by decide) (Or.inl rfl)
    have m4x4 := lk1_n (i := 6) (v := .int (I (e3))) m2x4 (by decide) (Or.inl rfl)
    have m4x5 := lk1_n (i := 6) (v := .int (I (e3))) m2x5 (by decide) (Or.inl rfl)
    have m4x6 : lk (so1 (so1 ls 5 (.int (I (1)))) 6 (.int (I (e3)))) 6 = some (.int (I (e3))) := lk1_s
    have lo4 := lok_so1 (i := 6) (v := .int (I (e3))) lo2 rfl
    refine x_aload_n 520 hK rfl rfl m4x2 ?_
    refine x_callV 523 hK hmono rfl rfl [.ref 171] [] rfl rfl (Nat.le_of_ble_eq_true rfl) (Nat.le_of_ble_eq_true rfl) rfl (s171_ hI3) (CLd_le (Nat.le_of_ble_eq_true rfl) (ctX11_thrown SPt_mono hI3.1)) ?_
    rintro v5 h5 ⟨rfl, rfl⟩
    rw [t3]
    refine x_iload 525 hK rfl rfl m4x5 ?_
    refine x_if_icmp_eq 530 528 hK rfl rfl rfl (by omega) (by omega) (fun _ => ?_) (fun c9 => absurd (by decide) c9)
    refine x_iload 532 hK rfl rfl m4x5 ?_
    refine x_if_ne 547 535 hK rfl rfl rfl (by omega) (fun _ => ?_) (fun c9 => absurd (by decide) c9)
    refine x_goto 1694 hK rfl rfl ?_
    exact hE _ _ _ _ m4x0 m4x1 m4x2 m4x3 m4x4 lo4 (hI3.mono (by omega)) trivial (by omega) (by omega)
  · have hI1 := INV_J (a := 201) (k := 0) (v := J w1) hI
    have hC1 := CR_J (v := J w1) hC
    refine x_istore 501 hK rfl rfl _ rfl ?_
    have m6x0 := lk1_n (i := 5) (v := .int (I (0))) l0 (by decide) (Or.inl rfl)
    have m6x1 := lk1_n (i := 5) (v := .int (I (0))) l1 (by decide) (Or.inl rfl)
    have m6x2 := lk1_n (i := 5) (v := .int (I (0))) l2 (by decide) (Or.inl rfl)
    have m6x3 := lk1_n (i := 5) (v := .int (I (0))) l3 (by decide) (Or.inl rfl)
    have m6x4 := lk1_n (i := 5) (v := .int (I (0))) l4 (by decide) (Or.inl rfl)
    have m6x5 : lk (so1 ls 5 (.int (I (0)))) 5 = some (.int (I (0))) := lk1_s
    have lo6 := lok_so1 (i := 5) (v := .int (I (0))) lo rfl
    refine x_aload_n 502 hK rfl rfl m6x2 ?_
    refine x_aload_n 503 hK rfl rfl m6x0 ?_
    refine x_iload 505 hK rfl rfl m6x4 ?_
    refine x_iconst 506 hK rfl rfl ?_
    refine x_iadd 507 hK rfl rfl ?_
    refine x_scr 508 9 hX rfl rfl rfl (by omega) (by omega) ?_
    refine x_aload_n 509 hK rfl rfl m6x0 ?_
    refine x_iload 511 hK rfl rfl m6x4 ?_
    refine x_iconst 512 hK rfl rfl ?_
    refine x_iadd 513 hK rfl rfl ?_
    refine x_scr 514 9 hX rfl rfl rfl (by omega) (by omega) ?_
    refine x_callV 517 hK hmono rfl rfl [.ref 171, .int (I ((xs (t + 1).toNat).toInt)), .int (I ((xs (t + 2).toNat).toInt))] [] rfl rfl (Nat.le_of_ble_eq_true rfl) (Nat.le_of_ble_eq_true rfl) rfl (s171_ hI1) (pw_mess hI1 hC1 (r_I _) (r_I _) hR1) ?_
    rintro v7 h7 ⟨e7, re7, rfl, tn7, tv7, hI7, hC7, hj7⟩
    obtain ⟨t7, ev7⟩ := tv7 _ rfl
    have q7 : r64 e7 := by omega
    have jj7 : (aJ h7 201 0).toInt = e7 := hj7.trans (by rw [ev7]; exact gj_same q7)
    refine x_istore 519 hK rfl rfl _ rfl ?_
    have m8x0 := lk1_n (i := 6) (v := .int (I (e7))) m6x0 (by decide) (Or.inl rfl)
    have m8x1 := lk1_n (i := 6) (v := .int (I (e7))) m6x1 (by decide) (Or.inl rfl)
    have m8x2 := lk1_n (i := 6) (v := .int (I (e7))) m6x2 (by decide) (Or.inl rfl)
    have m8x3 := lk1_n (i := 6) (v := .int (I (e7))) m6x3 (by decide) (Or.inl rfl)
    have m8x4 := lk1_n (i := 6) (v := .int (I (e7))) m6x4 (by decide) (Or.inl rfl)
    have m8x5 := lk1_n (i := 6) (v := .int (I (e7))) m6x5 (by decide) (Or.inl rfl)
    have m8x6 : lk (so1 (so1 ls 5 (.int (I (0)))) 6 (.int (I (e7)))) 6 = some (.int (I (e7))) := lk1_s
    have lo8 := lok_so1 (i := 6) (v := .int (I (e7))) lo6 rfl
    refine x_aload_n 520 hK rfl rfl m8x2 ?_
    refine x_callV 523 hK hmono rfl rfl [.ref 171] [] rfl rfl (Nat.le_of_ble_eq_true rfl) (Nat.le_of_ble_eq_true rfl) rfl (s171_ hI7) (CLd_le (Nat.le_of_ble_eq_true rfl) (ctX11_thrown SPt_mono hI7.1)) ?_
    rintro v9 h9 ⟨rfl, rfl⟩
    rw [t7]
    refine x_iload 525 hK rfl rfl m8x5 ?_
    refine x_if_icmp_eq 530 528 hK rfl rfl rfl (by omega) (by omega) (fun _ => ?_) (fun c9 => absurd (by decide) c9)
    refine x_iload 532 hK rfl rfl m8x5 ?_
    refine x_if_ne 547 535 hK rfl rfl rfl (by omega) (fun c9 => absurd c9 (by decide)) (fun _ => ?_)
    refine x_aload_n 536 hK rfl rfl m8x3 ?_
    refine x_iconst 537 hK rfl rfl ?_
    refine x_laload (n := 1) 538 hK rfl rfl (s201_ hI7) (by omega) (by omega) (by omega) ?_
    rw [show (0 : Int).toNat = 0 from rfl, jj7]
    refine x_iload 540 hK rfl rfl m8x6 ?_
    refine x_i2l 541 hK rfl rfl re7 ?_
    refine x_lcmp 542 hK rfl rfl q7 q7 ?_
    rw [if_neg (Int.lt_irrefl _), if_neg (Int.lt_irrefl _)]
    refine x_if_eq 547 545 hK rfl rfl rfl (by omega) (fun _ => ?_) (fun c9 => absurd (by decide) c9)
    refine x_goto 1694 hK rfl rfl ?_
    exact hE _ _ _ _ m8x0 m8x1 m8x2 m8x3 m8x4 lo8 (hI7.mono (by omega)) trivial (by omega) (by omega)
set_option maxRecDepth 8000 in
theorem lc10 (hK : CLO (CLd SPt 310) ac9L_law (some .boolean) lwQ K) (hX : ∀ (pc : Nat) (ls : List (Nat × Value)) (st : List Value) (h : aH) (bc bs : Nat), lwXR Lx xs K pc ls st h bc bs → K pc ls st h bc bs) {t b : Int} {h : aH} {ls : List (Nat × Value)} {bc bs : Nat} (ht : 0 ≤ t ∧ t + 5 ≤ (Lx : Int)) (hL : Lx ≤ 5) (hI : INV sh b h) (hC : CR h) (hb : b ≤ 320000) (l0 : lk ls 0 = some (.ref 1000006)) (l1 : lk ls 1 = some (.ref 0)) (l2 : lk ls 2 = some (.ref 171)) (l3 : lk ls 3 = some (.ref 201)) (l4 : lk ls 4 = some (.int (I t))) (lo : lok ls = true) (hbc : 1 ≤ bc) (hbs : 6 ≤ bs)
    (hE : ∀ (ls' : List (Nat × Value)) (h' : aH) (bc' bs' : Nat), lk ls' 0 = some (.ref 1000006) → lk ls' 1 = some (.ref 0) → lk ls' 2 = some (.ref 171) → lk ls' 3 = some (.ref 201) → lk ls' 4 = some (.int (I t)) → lok ls' = true → INV sh (b + 600) h' → CRO h' → bc ≤ bc' + 1 → bs ≤ bs' + 6 → K 1694 ls' [] h' bc' bs') : K 550 ls [] h bc bs := by
  have hK := sub_K hK 10 (S := aS10) rfl
  have hmono := MONO_CLd SPt_mono 310
  refine x_aload_n 551 hK rfl rfl l1 ?_
  refine x_aload_n 552 hK rfl rfl l0 ?_
  refine x_iload 554 hK rfl rfl l4 ?_
  refine x_iconst 555 hK rfl rfl ?_
  refine x_iadd 556 hK rfl rfl ?_
  refine x_scr 557 10 hX rfl rfl rfl (by omega) (by omega) ?_
  refine x_aload_n 558 hK rfl rfl l0 ?_
  refine x_iload 560 hK rfl rfl l4 ?_
  refine x_iconst 561 hK rfl rfl ?_
  refine x_iadd 562 hK rfl rfl ?_
  refine x_scr 563 10 hX rfl rfl rfl (by omega) (by omega) ?_
  refine x_aload_n 564 hK rfl rfl l3 ?_
  refine hX _ _ _ _ _ _ (Or.inr (Or.inr (Or.inr (Or.inr (Or.inr (Or.inl ⟨rfl, sh, _, _, hI.1, s201_ hI, r_I _, r_I _, rfl, lok_okv lo (sl_ hI), hbc, hbs, fun v1 h1 hw => ?_⟩))))))
  rcases hw with ⟨hR1, rfl, rfl⟩ | ⟨w1, hR1, rfl, rfl⟩
  · refine x_istore 569 hK rfl rfl _ rfl ?_
    have m2x0 := lk1_n (i := 5) (v := .int (I (1))) l0 (by decide) (Or.inl rfl)
    have m2x1 := lk1_n (i := 5) (v := .int (I (1))) l1 (by decide) (Or.inl rfl)
    have m2x2 := lk1_n (i := 5) (v := .int (I (1))) l2 (by decide) (Or.inl rfl)
    have m2x3 := lk1_n (i := 5) (v := .int (I (1))) l3 (by decide) (Or.inl rfl)
    have m2x4 := lk1_n (i := 5) (v := .int (I (1))) l4 (by decide) (Or.inl rfl)
    have m2x5 : lk (so1 ls 5 (.int (I (1)))) 5 = some (.int (I (1))) := lk1_s
    have lo2 := lok_so1 (i := 5) (v := .int (I (1))) lo rfl
    refine x_aload_n 570 hK rfl rfl m2x2 ?_
    refine x_aload_n 571 hK rfl rfl m2x0 ?_
    refine x_iload 573 hK rfl rfl m2x4 ?_
    refine x_iconst 574 hK rfl rfl ?_
    refine x_iadd 575 hK rfl rfl ?_
    refine x_scr 576 10 hX rfl rfl rfl (by omega) (by omega) ?_
    refine x_aload_n 577 hK rfl rfl m2x0 ?_
    refine x_iload 579 hK rfl rfl m2x4 ?_
    refine x_iconst 580 hK rfl rfl ?_
    refine x_iadd 581 hK rfl rfl ?_
    refine x_scr 582 10 hX rfl rfl rfl (by omega) (by omega) ?_
    refine x_callV 585 hK hmono rfl rfl [.ref 171, .int (I ((xs (t + 1).toNat).toInt)), .int (I ((xs (t + 2).toNat).toInt))] [] rfl rfl (Nat.le_of_ble_eq_true rfl) (Nat.le_of_ble_eq_true rfl) rfl (s171_ hI) (pw_way hI hC (r_I _) (r_I _) hR1) ?_
    rintro v3 h3 ⟨e3, re3, rfl, tn3, tv3, hI3, hC3, hj3⟩
    have t3 := tn3 rfl
    refine x_istore 587 hK rfl rfl _ rfl ?_
    have m4x0 := lk1_n (i := 6) (v := .int (I (e3))) m2x0 (by decide) (Or.inl rfl)
    have m4x1 := lk1_n (i := 6) (v := .int (I (e3))) m2x1 (by decide) (Or.inl rfl)
    have m4x2 := lk1_n (i := 6) (v := .int (I (e3))) m2x2 (by decide) (Or.inl rfl)
    have m4x3 := lk1_n (i := 6) (v := .int (I (e3))) m2x3 (by decide) (Or.inl rfl)
    have m4x4 := lk1_n (i := 6) (v := .int (I (e3))) m2x4 (by decide) (Or.inl rfl)
    have m4x5 := lk1_n (i := 6) (v := .int (I (e3))) m2x5 (by decide) (Or.inl rfl)
    have m4x6 : lk (so1 (so1 ls 5 (.int (I (1)))) 6 (.int (I (e3)))) 6 = some (.int (I (e3))) := lk1_s
    have lo4 := lok_so1 (i := 6) (v := .int (I (e3))) lo2 rfl
    refine x_aload_n 588 hK rfl rfl m4x2 ?_
    refine x_callV 591 hK hmono rfl rfl [.ref 171] [] rfl rfl (Nat.le_of_ble_eq_true rfl) (Nat.le_of_ble_eq_true rfl) rfl (s171_ hI3) (CLd_le (Nat.le_of_ble_eq_true rfl) (ctX11_thrown SPt_mono hI3.1)) ?_
    rintro v5 h5 ⟨rfl, rfl⟩
    rw [t3]
    refine x_iload 593 hK rfl rfl m4x5 ?_
    refine x_if_icmp_eq 598 596 hK rfl rfl rfl (by omega) (by omega) (fun _ => ?_) (fun c9 => absurd (by decide) c9)
    refine x_iload 600 hK rfl rfl m4x5 ?_
    refine x_if_ne 615 603 hK rfl rfl rfl (by omega) (fun _ => ?_) (fun c9 => absurd (by decide) c9)
    refine x_goto 1694 hK rfl rfl ?_
    exact hE _ _ _ _ m4x0 m4x1 m4x2 m4x3 m4x4 lo4 (hI3.mono (by omega)) trivial (by omega) (by omega)
  · have hI1 := INV_J (a := 201) (k := 0) (v := J w1) hI
    have hC1 := CR_J (v := J w1) hC
    refine x_istore 569 hK rfl rfl _ rfl ?_
    have m6x0 := lk1_n (i := 5) (v := .int (I (0))) l0 (by decide) (Or.inl rfl)
    have m6x1 := lk1_n (i := 5) (v := .int (I (0))) l1 (by decide) (Or.inl rfl)
    have m6x2 := lk1_n (i := 5) (v := .int (I (0))) l2 (by decide) (Or.inl rfl)
    have m6x3 := lk1_n (i := 5) (v := .int (I (0))) l3 (by decide) (Or.inl rfl)
    have m6x4 := lk1_n (i := 5) (v := .int (I (0))) l4 (by decide) (Or.inl rfl)
    have m6x5 : lk (so1 ls 5 (.int (I (0)))) 5 = some (.int (I (0))) := lk1_s
    have lo6 := lok_so1 (i := 5) (v := .int (I (0))) lo rfl
    refine x_aload_n 570 hK rfl rfl m6x2 ?_
    refine x_aload_n 571 hK rfl rfl m6x0 ?_
    refine x_iload 573 hK rfl rfl m6x4 ?_
    refine x_iconst 574 hK rfl rfl ?_
    refine x_iadd 575 hK rfl rfl ?_
    refine x_scr 576 10 hX rfl rfl rfl (by omega) (by omega) ?_
    refine x_aload_n 577 hK rfl rfl m6x0 ?_
    refine x_iload 579 hK rfl rfl m6x4 ?_
    refine x_iconst 580 hK rfl rfl ?_
    refine x_iadd 581 hK rfl rfl ?_
    refine x_scr 582 10 hX rfl rfl rfl (by omega) (by omega) ?_
    refine x_callV 585 hK hmono rfl rfl [.ref 171, .int (I ((xs (t + 1).toNat).toInt)), .int (I ((xs (t + 2).toNat).toInt))] [] rfl rfl (Nat.le_of_ble_eq_true rfl) (Nat.le_of_ble_eq_true rfl) rfl (s171_ hI1) (pw_way hI1 hC1 (r_I _) (r_I _) hR1) ?_
    rintro v7 h7 ⟨e7, re7, rfl, tn7, tv7, hI7, hC7, hj7⟩
    obtain ⟨t7, ev7⟩ := tv7 _ rfl
    have q7 : r64 e7 := by omega
    have jj7 : (aJ h7 201 0).toInt = e7 := hj7.trans (by rw [ev7]; exact gj_same q7)
    refine x_istore 587 hK rfl rfl _ rfl ?_
    have m8x0 := lk1_n (i := 6) (v := .int (I (e7))) m6x0 (by decide) (Or.inl rfl)
    have m8x1 := lk1_n (i := 6) (v := .int (I (e7))) m6x1 (by decide) (Or.inl rfl)
    have m8x2 := lk1_n (i := 6) (v := .int (I (e7))) m6x2 (by decide) (Or.inl rfl)
    have m8x3 := lk1_n (i := 6) (v := .int (I (e7))) m6x3 (by decide) (Or.inl rfl)
    have m8x4 := lk1_n (i := 6) (v := .int (I (e7))) m6x4 (by decide) (Or.inl rfl)
    have m8x5 := lk1_n (i := 6) (v := .int (I (e7))) m6x5 (by decide) (Or.inl rfl)
    have m8x6 : lk (so1 (so1 ls 5 (.int (I (0)))) 6 (.int (I (e7)))) 6 = some (.int (I (e7))) := lk1_s
    have lo8 := lok_so1 (i := 6) (v := .int (I (e7))) lo6 rfl
    refine x_aload_n 588 hK rfl rfl m8x2 ?_
    refine x_callV 591 hK hmono rfl rfl [.ref 171] [] rfl rfl (Nat.le_of_ble_eq_true rfl) (Nat.le_of_ble_eq_true rfl) rfl (s171_ hI7) (CLd_le (Nat.le_of_ble_eq_true rfl) (ctX11_thrown SPt_mono hI7.1)) ?_
    rintro v9 h9 ⟨rfl, rfl⟩
    rw [t7]
    refine x_iload 593 hK rfl rfl m8x5 ?_
    refine x_if_icmp_eq 598 596 hK rfl rfl rfl (by omega) (by omega) (fun _ => ?_) (fun c9 => absurd (by decide) c9)
    refine x_iload 600 hK rfl rfl m8x5 ?_
    refine x_if_ne 615 603 hK rfl rfl rfl (by omega) (fun c9 => absurd c9 (by decide)) (fun _ => ?_)
    refine x_aload_n 604 hK rfl rfl m8x3 ?_
    refine x_iconst 605 hK rfl rfl ?_
    refine x_laload (n := 1) 606 hK rfl rfl (s201_ hI7) (by omega) (by omega) (by omega) ?_
    rw [show (0 : Int).toNat = 0 from rfl, jj7]
    refine x_iload 608 hK rfl rfl m8x6 ?_
    refine x_i2l 609 hK rfl rfl re7 ?_
    refine x_lcmp 610 hK rfl rfl q7 q7 ?_
    rw [if_neg (Int.lt_irrefl _), if_neg (Int.lt_irrefl _)]
    refine x_if_eq 615 613 hK rfl rfl rfl (by omega) (fun _ => ?_) (fun c9 => absurd (by decide) c9)
    refine x_goto 1694 hK rfl rfl ?_
    exact hE _ _ _ _ m8x0 m8x1 m8x2 m8x3 m8x4 lo8 (hI7.mono (by omega)) trivial (by omega) (by omega)
set_option maxRecDepth 8000 in
theorem lc11 (hK : CLO (CLd SPt 310) ac9L_law (some .boolean) lwQ K) (hX : ∀ (pc : Nat) (ls : List (Nat × Value)) (st : List Value) (h : aH) (bc bs : Nat), lwXR Lx xs K pc ls st h bc bs → K pc ls st h bc bs) {t b : Int} {h : aH} {ls : List (Nat × Value)} {bc bs : Nat} (ht : 0 ≤ t ∧ t + 5 ≤ (Lx : Int)) (hL : Lx ≤ 5) (hI : INV sh b h) (hC : CR h) (hb : b ≤ 320000) (l0 : lk ls 0 = some (.ref 1000006)) (l1 : lk ls 1 = some (.ref 0)) (l2 : lk ls 2 = some (.ref 171)) (l3 : lk ls 3 = some (.ref 201)) (l4 : lk ls 4 = some (.int (I t))) (lo : lok ls = true) (hbc : 1 ≤ bc) (hbs : 6 ≤ bs)
    (hE : ∀ (ls' : List (Nat × Value)) (h' : aH) (bc' bs' : Nat), lk ls' 0 = some (.ref 1000006) → lk ls' 1 = some (.ref 0) → lk ls' 2 = some (.ref 171) → lk ls' 3 = some (.ref 201) → lk ls' 4 = some (.int (I t)) → lok ls' = true → INV sh (b + 600) h' → CRO h' → bc ≤ bc' + 1 → bs ≤ bs' + 6 → K 1694 ls' [] h' bc' bs') : K 618 ls [] h bc bs := by
  have hK := sub_K hK 11 (S := aS11) rfl
  have hmono := MONO_CLd SPt_mono 310
  refine x_aload_n 619 hK rfl rfl l1 ?_
  refine x_aload_n 620 hK rfl rfl l0 ?_
  refine x_iload 622 hK rfl rfl l4 ?_
  refine x_iconst 623 hK rfl rfl ?_
  refine x_iadd 624 hK rfl rfl ?_
  refine x_scr 625 11 hX rfl rfl rfl (by omega) (by omega) ?_
  refine x_aload_n 626 hK rfl rfl l0 ?_
  refine x_iload 628 hK rfl rfl l4 ?_
  refine x_iconst 629 hK rfl rfl ?_
  refine x_iadd 630 hK rfl rfl ?_
  refine x_scr 631 11 hX rfl rfl rfl (by omega) (by omega) ?_
  refine x_aload_n 632 hK rfl rfl l0 ?_
  refine x_iload 634 hK rfl rfl l4 ?_
  refine x_iconst 635 hK rfl rfl ?_
  refine x_iadd 636 hK rfl rfl ?_
  refine x_scr 637 11 hX rfl rfl rfl (by omega) (by omega) ?_
  refine x_aload_n 638 hK rfl rfl l0 ?_
  refine x_iload 640 hK rfl rfl l4 ?_
  refine x_iconst 641 hK rfl rfl ?_
  refine x_iadd 642 hK rfl rfl ?_
  refine x_scr 643 11 hX rfl rfl rfl (by omega) (by omega) ?_
  refine x_callV 646 hK hmono rfl rfl [.ref 0, .int (I ((xs (t + 1).toNat).toInt)), .int (I ((xs (t + 2).toNat).toInt)), .int (I ((xs (t + 3).toNat).toInt)), .int (I ((xs (t + 4).toNat).toInt))] [] rfl rfl (Nat.le_of_ble_eq_true rfl) (Nat.le_of_ble_eq_true rfl) rfl (s0_ hI) (pr_sheet hI hC hb (r_I _) (r_I _) (r_I _) (r_I _)) ?_
  rintro v1 h1 ⟨e1, re1, rfl, hG1, cl1⟩
  refine x_aload_n 647 hK rfl rfl l2 ?_
  refine x_aload_n 648 hK rfl rfl l0 ?_
  refine x_iload 650 hK rfl rfl l4 ?_
  refine x_iconst 651 hK rfl rfl ?_
  refine x_iadd 652 hK rfl rfl ?_
  refine x_scr 653 11 hX rfl rfl rfl (by omega) (by omega) ?_
  refine x_aload_n 654 hK rfl rfl l0 ?_
  refine x_iload 656 hK rfl rfl l4 ?_
  refine x_iconst 657 hK rfl rfl ?_
  refine x_iadd 658 hK rfl rfl ?_
  refine x_scr 659 11 hX rfl rfl rfl (by omega) (by omega) ?_
  refine x_aload_n 660 hK rfl rfl l0 ?_
  refine x_iload 662 hK rfl rfl l4 ?_
  refine x_iconst 663 hK rfl rfl ?_
  refine x_iadd 664 hK rfl rfl ?_
  refine x_scr 665 11 hX rfl rfl rfl (by omega) (by omega) ?_
  refine x_aload_n 666 hK rfl rfl l0 ?_
  refine x_iload 668 hK rfl rfl l4 ?_
  refine x_iconst 669 hK rfl rfl ?_
  refine x_iadd 670 hK rfl rfl ?_
  refine x_scr 671 11 hX rfl rfl rfl (by omega) (by omega) ?_
  refine x_callV 674 hK hmono rfl rfl [.ref 171, .int (I ((xs (t + 1).toNat).toInt)), .int (I ((xs (t + 2).toNat).toInt)), .int (I ((xs (t + 3).toNat).toInt)), .int (I ((xs (t + 4).toNat).toInt))] [.int (I (e1))] rfl rfl (Nat.le_of_ble_eq_true rfl) (Nat.le_of_ble_eq_true rfl) rfl (s171g_ hG1) cl1 ?_
  rintro v2 h2 ⟨e2, re2, rfl, ee2, hI2, hC2⟩
  rw [ee2 rfl]
  refine x_if_icmp_eq 1694 677 hK rfl rfl rfl re1 re1 (fun _ => ?_) (fun c9 => absurd rfl c9)
  exact hE _ _ _ _ l0 l1 l2 l3 l4 lo (hI2.mono (by omega)) trivial (by omega) (by omega)
set_option maxRecDepth 8000 in
theorem lc12 (hK : CLO (CLd SPt 310) ac9L_law (some .boolean) lwQ K) (hX : ∀ (pc : Nat) (ls : List (Nat × Value)) (st : List Value) (h : aH) (bc bs : Nat), lwXR Lx xs K pc ls st h bc bs → K pc ls st h bc bs) {t b : Int} {h : aH} {ls : List (Nat × Value)} {bc bs : Nat} (ht : 0 ≤ t ∧ t + 5 ≤ (Lx : Int)) (hL : Lx ≤ 5) (hI : INV sh b h) (hC : CR h) (hb : b ≤ 320000) (l0 : lk ls 0 = some (.ref 1000006)) (l1 : lk ls 1 = some (.ref 0)) (l2 : lk ls 2 = some (.ref 171)) (l3 : lk ls 3 = some (.ref 201)) (l4 : lk ls 4 = some (.int (I t))) (lo : lok ls = true) (hbc : 1 ≤ bc) (hbs : 6 ≤ bs)
    (hE : ∀ (ls' : List (Nat × Value)) (h' : aH) (bc' bs' : Nat), lk ls' 0 = some (.ref 1000006) → lk ls' 1 = some (.ref 0) → lk ls' 2 = some (.ref 171) → lk ls' 3 = some (.ref 201) → lk ls' 4 = some (.int (I t)) → lok ls' = true → INV sh (b + 600) h' → CRO h' → bc ≤ bc' + 1 → bs ≤ bs' + 6 → K 1694 ls' [] h' bc' bs') : K 679 ls [] h bc bs := by
  have hK := sub_K hK 12 (S := aS12) rfl
  have hmono := MONO_CLd SPt_mono 310
  refine x_aload_n 680 hK rfl rfl l1 ?_
  refine x_callV 683 hK hmono rfl rfl [.ref 0] [] rfl rfl (Nat.le_of_ble_eq_true rfl) (Nat.le_of_ble_eq_true rfl) rfl (s0_ hI) (pr_delay hI hC hb ) ?_
  rintro v1 h1 ⟨e1, re1, rfl, hG1, cl1⟩
  refine x_aload_n 684 hK rfl rfl l2 ?_
  refine x_callV 687 hK hmono rfl rfl [.ref 171] [.int (I (e1))] rfl rfl (Nat.le_of_ble_eq_true rfl) (Nat.le_of_ble_eq_true rfl) rfl (s171g_ hG1) cl1 ?_
  rintro v2 h2 ⟨e2, re2, rfl, ee2, hI2, hC2⟩
  rw [ee2 rfl]
  refine x_if_icmp_eq 1694 690 hK rfl rfl rfl re1 re1 (fun _ => ?_) (fun c9 => absurd rfl c9)
  exact hE _ _ _ _ l0 l1 l2 l3 l4 lo (hI2.mono (by omega)) trivial (by omega) (by omega)
set_option maxRecDepth 8000 in
theorem lc13 (hK : CLO (CLd SPt 310) ac9L_law (some .boolean) lwQ K) (hX : ∀ (pc : Nat) (ls : List (Nat × Value)) (st : List Value) (h : aH) (bc bs : Nat), lwXR Lx xs K pc ls st h bc bs → K pc ls st h bc bs) {t b : Int} {h : aH} {ls : List (Nat × Value)} {bc bs : Nat} (ht : 0 ≤ t ∧ t + 5 ≤ (Lx : Int)) (hL : Lx ≤ 5) (hI : INV sh b h) (hC : CR h) (hb : b ≤ 320000) (l0 : lk ls 0 = some (.ref 1000006)) (l1 : lk ls 1 = some (.ref 0)) (l2 : lk ls 2 = some (.ref 171)) (l3 : lk ls 3 = some (.ref 201)) (l4 : lk ls 4 = some (.int (I t))) (lo : lok ls = true) (hbc : 1 ≤ bc) (hbs : 6 ≤ bs)
    (hE : ∀ (ls' : List (Nat × Value)) (h' : aH) (bc' bs' : Nat), lk ls' 0 = some (.ref 1000006) → lk ls' 1 = some (.ref 0) → lk ls' 2 = some (.ref 171) → lk ls' 3 = some (.ref 201) → lk ls' 4 = some (.int (I t)) → lok ls' = true → INV sh (b + 600) h' → CRO h' → bc ≤ bc' + 1 → bs ≤ bs' + 6 → K 1694 ls' [] h' bc' bs') : K 692 ls [] h bc bs := by
  have hK := sub_K hK 13 (S := aS13) rfl
  have hmono := MONO_CLd SPt_mono 310
  refine x_aload_n 693 hK rfl rfl l1 ?_
  refine x_aload_n 694 hK rfl rfl l0 ?_
  refine x_iload 696 hK rfl rfl l4 ?_
  refine x_iconst 697 hK rfl rfl ?_
  refine x_iadd 698 hK rfl rfl ?_
  refine x_scr 699 13 hX rfl rfl rfl (by omega) (by omega) ?_
  refine x_callV 702 hK hmono rfl rfl [.ref 0, .int (I ((xs (t + 1).toNat).toInt))] [] rfl rfl (Nat.le_of_ble_eq_true rfl) (Nat.le_of_ble_eq_true rfl) rfl (s0_ hI) (pr_order hI hC hb (r_I _)) ?_
  rintro v1 h1 ⟨e1, re1, rfl, hG1, cl1⟩
  refine x_aload_n 703 hK rfl rfl l2 ?_
  refine x_aload_n 704 hK rfl rfl l0 ?_
  refine x_iload 706 hK rfl rfl l4 ?_
  refine x_iconst 707 hK rfl rfl ?_
  refine x_iadd 708 hK rfl rfl ?_
  refine x_scr 709 13 hX rfl rfl rfl (by omega) (by omega) ?_
  refine x_callV 712 hK hmono rfl rfl [.ref 171, .int (I ((xs (t + 1).toNat).toInt))] [.int (I (e1))] rfl rfl (Nat.le_of_ble_eq_true rfl) (Nat.le_of_ble_eq_true rfl) rfl (s171g_ hG1) cl1 ?_
  rintro v2 h2 ⟨e2, re2, rfl, ee2, hI2, hC2⟩
  rw [ee2 rfl]
  refine x_if_icmp_eq 1694 715 hK rfl rfl rfl re1 re1 (fun _ => ?_) (fun c9 => absurd rfl c9)
  exact hE _ _ _ _ l0 l1 l2 l3 l4 lo (hI2.mono (by omega)) trivial (by omega) (by omega)
set_option maxRecDepth 8000 in
theorem lc14 (hK : CLO (CLd SPt 310) ac9L_law (some .boolean) lwQ K) (hX : ∀ (pc : Nat) (ls : List (Nat × Value)) (st : List Value) (h : aH) (bc bs : Nat), lwXR Lx xs K pc ls st h bc bs → K pc ls st h bc bs) {t b : Int} {h : aH} {ls : List (Nat × Value)} {bc bs : Nat} (ht : 0 ≤ t ∧ t + 5 ≤ (Lx : Int)) (hL : Lx ≤ 5) (hI : INV sh b h) (hC : CR h) (hb : b ≤ 320000) (l0 : lk ls 0 = some (.ref 1000006)) (l1 : lk ls 1 = some (.ref 0)) (l2 : lk ls 2 = some (.ref 171)) (l3 : lk ls 3 = some (.ref 201)) (l4 : lk ls 4 = some (.int (I t))) (lo : lok ls = true) (hbc : 1 ≤ bc) (hbs : 6 ≤ bs)
    (hE : ∀ (ls' : List (Nat × Value)) (h' : aH) (bc' bs' : Nat), lk ls' 0 = some (.ref 1000006) → lk ls' 1 = some (.ref 0) → lk ls' 2 = some (.ref 171) → lk ls' 3 = some (.ref 201) → lk ls' 4 = some (.int (I t)) → lok ls' = true → INV sh (b + 600) h' → CRO h' → bc ≤ bc' + 1 → bs ≤ bs' + 6 → K 1694 ls' [] h' bc' bs') : K 717 ls [] h bc bs := by
  have hK := sub_K hK 14 (S := aS14) rfl
  have hmono := MONO_CLd SPt_mono 310
  refine x_aload_n 718 hK rfl rfl l1 ?_
  refine x_aload_n 719 hK rfl rfl l0 ?_
  refine x_iload 721 hK rfl rfl l4 ?_
  refine x_iconst 722 hK rfl rfl ?_
  refine x_iadd 723 hK rfl rfl ?_
  refine x_scr 724 14 hX rfl rfl rfl (by omega) (by omega) ?_
  refine x_aload_n 725 hK rfl rfl l0 ?_
  refine x_iload 727 hK rfl rfl l4 ?_
  refine x_iconst 728 hK rfl rfl ?_
  refine x_iadd 729 hK rfl rfl ?_
  refine x_scr 730 14 hX rfl rfl rfl (by omega) (by omega) ?_
  refine x_aload_n 731 hK rfl rfl l0 ?_
  refine x_iload 733 hK rfl rfl l4 ?_
  refine x_iconst 734 hK rfl rfl ?_
  refine x_iadd 735 hK rfl rfl ?_
  refine x_scr 736 14 hX rfl rfl rfl (by omega) (by omega) ?_
  refine x_callV 739 hK hmono rfl rfl [.ref 0, .int (I ((xs (t + 1).toNat).toInt)), .int (I ((xs (t + 2).toNat).toInt)), .int (I ((xs (t + 3).toNat).toInt))] [] rfl rfl (Nat.le_of_ble_eq_true rfl) (Nat.le_of_ble_eq_true rfl) rfl (s0_ hI) (pr_pass hI hC hb (r_I _) (r_I _) (r_I _)) ?_
  rintro v1 h1 ⟨e1, re1, rfl, hG1, cl1⟩
  refine x_aload_n 740 hK rfl rfl l2 ?_
  refine x_aload_n 741 hK rfl rfl l0 ?_
  refine x_iload 743 hK rfl rfl l4 ?_
  refine x_iconst 744 hK rfl rfl ?_
  refine x_iadd 745 hK rfl rfl ?_
  refine x_scr 746 14 hX rfl rfl rfl (by omega) (by omega) ?_
  refine x_aload_n 747 hK rfl rfl l0 ?_
  refine x_iload 749 hK rfl rfl l4 ?_
  refine x_iconst 750 hK rfl rfl ?_
  refine x_iadd 751 hK rfl rfl ?_
  refine x_scr 752 14 hX rfl rfl rfl (by omega) (by omega) ?_
  refine x_aload_n 753 hK rfl rfl l0 ?_
  refine x_iload 755 hK rfl rfl l4 ?_
  refine x_iconst 756 hK rfl rfl ?_
  refine x_iadd 757 hK rfl rfl ?_
  refine x_scr 758 14 hX rfl rfl rfl (by omega) (by omega) ?_
  refine x_callV 761 hK hmono rfl rfl [.ref 171, .int (I ((xs (t + 1).toNat).toInt)), .int (I ((xs (t + 2).toNat).toInt)), .int (I ((xs (t + 3).toNat).toInt))] [.int (I (e1))] rfl rfl (Nat.le_of_ble_eq_true rfl) (Nat.le_of_ble_eq_true rfl) rfl (s171g_ hG1) cl1 ?_
  rintro v2 h2 ⟨e2, re2, rfl, ee2, hI2, hC2⟩
  rw [ee2 rfl]
  refine x_if_icmp_eq 1694 764 hK rfl rfl rfl re1 re1 (fun _ => ?_) (fun c9 => absurd rfl c9)
  exact hE _ _ _ _ l0 l1 l2 l3 l4 lo (hI2.mono (by omega)) trivial (by omega) (by omega)
set_option maxRecDepth 8000 in
theorem lc15 (hK : CLO (CLd SPt 310) ac9L_law (some .boolean) lwQ K) (hX : ∀ (pc : Nat) (ls : List (Nat × Value)) (st : List Value) (h : aH) (bc bs : Nat), lwXR Lx xs K pc ls st h bc bs → K pc ls st h bc bs) {t b : Int} {h : aH} {ls : List (Nat × Value)} {bc bs : Nat} (ht : 0 ≤ t ∧ t + 5 ≤ (Lx : Int)) (hL : Lx ≤ 5) (hI : INV sh b h) (hC : CR h) (hb : b ≤ 320000) (l0 : lk ls 0 = some (.ref 1000006)) (l1 : lk ls 1 = some (.ref 0)) (l2 : lk ls 2 = some (.ref 171)) (l3 : lk ls 3 = some (.ref 201)) (l4 : lk ls 4 = some (.int (I t))) (lo : lok ls = true) (hbc : 1 ≤ bc) (hbs : 6 ≤ bs)
    (hE : ∀ (ls' : List (Nat × Value)) (h' : aH) (bc' bs' : Nat), lk ls' 0 = some (.ref 1000006) → lk ls' 1 = some (.ref 0) → lk ls' 2 = some (.ref 171) → lk ls' 3 = some (.ref 201) → lk ls' 4 = some (.int (I t)) → lok ls' = true → INV sh (b + 600) h' → CRO h' → bc ≤ bc' + 1 → bs ≤ bs' + 6 → K 1694 ls' [] h' bc' bs') : K 766 ls [] h bc bs := by
  have hK := sub_K hK 15 (S := aS15) rfl
  have hmono := MONO_CLd SPt_mono 310
  refine x_aload_n 767 hK rfl rfl l1 ?_
  refine x_aload_n 768 hK rfl rfl l0 ?_
  refine x_iload 770 hK rfl rfl l4 ?_
  refine x_iconst 771 hK rfl rfl ?_
  refine x_iadd 772 hK rfl rfl ?_
  refine x_scr 773 15 hX rfl rfl rfl (by omega) (by omega) ?_
  refine x_aload_n 774 hK rfl rfl l0 ?_
  refine x_iload 776 hK rfl rfl l4 ?_
  refine x_iconst 777 hK rfl rfl ?_
  refine x_iadd 778 hK rfl rfl ?_
  refine x_scr 779 15 hX rfl rfl rfl (by omega) (by omega) ?_
  refine x_callV 782 hK hmono rfl rfl [.ref 0, .int (I ((xs (t + 1).toNat).toInt)), .int (I ((xs (t + 2).toNat).toInt))] [] rfl rfl (Nat.le_of_ble_eq_true rfl) (Nat.le_of_ble_eq_true rfl) rfl (s0_ hI) (pr_cook hI hC hb (r_I _) (r_I _)) ?_
  rintro v1 h1 ⟨e1, re1, rfl, hG1, cl1⟩
  refine x_aload_n 783 hK rfl rfl l2 ?_
  refine x_aload_n 784 hK rfl rfl l0 ?_
  refine x_iload 786 hK rfl rfl l4 ?_
  refine x_iconst 787 hK rfl rfl ?_
  refine x_iadd 788 hK rfl rfl ?_
  refine x_scr 789 15 hX rfl rfl rfl (by omega) (by omega) ?_
  refine x_aload_n 790 hK rfl rfl l0 ?_
  refine x_iload 792 hK rfl rfl l4 ?_
  refine x_iconst 793 hK rfl rfl ?_
  refine x_iadd 794 hK rfl rfl ?_
  refine x_scr 795 15 hX rfl rfl rfl (by omega) (by omega) ?_
  refine x_callV 798 hK hmono rfl rfl [.ref 171, .int (I ((xs (t + 1).toNat).toInt)), .int (I ((xs (t + 2).toNat).toInt))] [.int (I (e1))] rfl rfl (Nat.le_of_ble_eq_true rfl) (Nat.le_of_ble_eq_true rfl) rfl (s171g_ hG1) cl1 ?_
  rintro v2 h2 ⟨e2, re2, rfl, ee2, hI2, hC2⟩
  rw [ee2 rfl]
  refine x_if_icmp_eq 1694 801 hK rfl rfl rfl re1 re1 (fun _ => ?_) (fun c9 => absurd rfl c9)
  exact hE _ _ _ _ l0 l1 l2 l3 l4 lo (hI2.mono (by omega)) trivial (by omega) (by omega)
set_option maxRecDepth 8000 in
theorem lc16 (hK : CLO (CLd SPt 310) ac9L_law (some .boolean) lwQ K) (hX : ∀ (pc : Nat) (ls : List (Nat × Value)) (st : List Value) (h : aH) (bc bs : Nat), lwXR Lx xs K pc ls st h bc bs → K pc ls st h bc bs) {t b : Int} {h : aH} {ls : List (Nat × Value)} {bc bs : Nat} (ht : 0 ≤ t ∧ t + 5 ≤ (Lx : Int)) (hL : Lx ≤ 5) (hI : INV sh b h) (hC : CR h) (hb : b ≤ 320000) (l0 : lk ls 0 = some (.ref 1000006)) (l1 : lk ls 1 = some (.ref 0)) (l2 : lk ls 2 = some (.ref 171)) (l3 : lk ls 3 = some (.ref 201)) (l4 : lk ls 4 = some (.int (I t))) (lo : lok ls = true) (hbc : 1 ≤ bc) (hbs : 6 ≤ bs)
    (hE : ∀ (ls' : List (Nat × Value)) (h' : aH) (bc' bs' : Nat), lk ls' 0 = some (.ref 1000006) → lk ls' 1 = some (.ref 0) → lk ls' 2 = some (.ref 171) → lk ls' 3 = some (.ref 201) → lk ls' 4 = some (.int (I t)) → lok ls' = true → INV sh (b + 600) h' → CRO h' → bc ≤ bc' + 1 → bs ≤ bs' + 6 → K 1694 ls' [] h' bc' bs') : K 803 ls [] h bc bs := by
  have hK := sub_K hK 16 (S := aS16) rfl
  have hmono := MONO_CLd SPt_mono 310
  refine x_aload_n 804 hK rfl rfl l1 ?_
  refine x_aload_n 805 hK rfl rfl l0 ?_
  refine x_iload 807 hK rfl rfl l4 ?_
  refine x_iconst 808 hK rfl rfl ?_
  refine x_iadd 809 hK rfl rfl ?_
  refine x_scr 810 16 hX rfl rfl rfl (by omega) (by omega) ?_
  refine x_callV 813 hK hmono rfl rfl [.ref 0, .int (I ((xs (t + 1).toNat).toInt))] [] rfl rfl (Nat.le_of_ble_eq_true rfl) (Nat.le_of_ble_eq_true rfl) rfl (s0_ hI) (pr_steps hI hC hb (r_I _)) ?_
  rintro v1 h1 ⟨e1, re1, rfl, hG1, cl1⟩
  refine x_aload_n 814 hK rfl rfl l2 ?_
  refine x_aload_n 815 hK rfl rfl l0 ?_
  refine x_iload 817 hK rfl rfl l4 ?_
  refine x_iconst 818 hK rfl rfl ?_
  refine x_iadd 819 hK rfl rfl ?_
  refine x_scr 820 16 hX rfl rfl rfl (by omega) (by omega) ?_
  refine x_callV 823 hK hmono rfl rfl [.ref 171, .int (I ((xs (t + 1).toNat).toInt))] [.int (I (e1))] rfl rfl (Nat.le_of_ble_eq_true rfl) (Nat.le_of_ble_eq_true rfl) rfl (s171g_ hG1) cl1 ?_
  rintro v2 h2 ⟨e2, re2, rfl, ee2, hI2, hC2⟩
  rw [ee2 rfl]
  refine x_if_icmp_eq 1694 826 hK rfl rfl rfl re1 re1 (fun _ => ?_) (fun c9 => absurd rfl c9)
  exact hE _ _ _ _ l0 l1 l2 l3 l4 lo (hI2.mono (by omega)) trivial (by omega) (by omega)
set_option maxRecDepth 8000 in
theorem lc17 (hK : CLO (CLd SPt 310) ac9L_law (some .boolean) lwQ K) (hX : ∀ (pc : Nat) (ls : List (Nat × Value)) (st : List Value) (h : aH) (bc bs : Nat), lwXR Lx xs K pc ls st h bc bs → K pc ls st h bc bs) {t b : Int} {h : aH} {ls : List (Nat × Value)} {bc bs : Nat} (ht : 0 ≤ t ∧ t + 5 ≤ (Lx : Int)) (hL : Lx ≤ 5) (hI : INV sh b h) (hC : CR h) (hb : b ≤ 320000) (l0 : lk ls 0 = some (.ref 1000006)) (l1 : lk ls 1 = some (.ref 0)) (l2 : lk ls 2 = some (.ref 171)) (l3 : lk ls 3 = some (.ref 201)) (l4 : lk ls 4 = some (.int (I t))) (lo : lok ls = true) (hbc : 1 ≤ bc) (hbs : 6 ≤ bs)
    (hE : ∀ (ls' : List (Nat × Value)) (h' : aH) (bc' bs' : Nat), lk ls' 0 = some (.ref 1000006) → lk ls' 1 = some (.ref 0) → lk ls' 2 = some (.ref 171) → lk ls' 3 = some (.ref 201) → lk ls' 4 = some (.int (I t)) → lok ls' = true → INV sh (b + 600) h' → CRO h' → bc ≤ bc' + 1 → bs ≤ bs' + 6 → K 1694 ls' [] h' bc' bs') : K 828 ls [] h bc bs := by
  have hK := sub_K hK 17 (S := aS17) rfl
  have hmono := MONO_CLd SPt_mono 310
  refine x_aload_n 829 hK rfl rfl l1 ?_
  refine x_callV 832 hK hmono rfl rfl [.ref 0] [] rfl rfl (Nat.le_of_ble_eq_true rfl) (Nat.le_of_ble_eq_true rfl) rfl (s0_ hI) (pr_voyage hI hC hb ) ?_
  rintro v1 h1 ⟨e1, re1, rfl, hG1, cl1⟩
  refine x_aload_n 833 hK rfl rfl l2 ?_
  refine x_callV 836 hK hmono rfl rfl [.ref 171] [.int (I (e1))] rfl rfl (Nat.le_of_ble_eq_true rfl) (Nat.le_of_ble_eq_true rfl) rfl (s171g_ hG1) cl1 ?_
  rintro v2 h2 ⟨e2, re2, rfl, ee2, hI2, hC2⟩
  rw [ee2 rfl]
  refine x_if_icmp_eq 1694 839 hK rfl rfl rfl re1 re1 (fun _ => ?_) (fun c9 => absurd rfl c9)
  exact hE _ _ _ _ l0 l1 l2 l3 l4 lo (hI2.mono (by omega)) trivial (by omega) (by omega)
set_option maxRecDepth 8000 in
theorem lc18 (hK : CLO (CLd SPt 310) ac9L_law (some .boolean) lwQ K) (hX : ∀ (pc : Nat) (ls : List (Nat × Value)) (st : List Value) (h : aH) (bc bs : Nat), lwXR Lx xs K pc ls st h bc bs → K pc ls st h bc bs) {t b : Int} {h : aH} {ls : List (Nat × Value)} {bc bs : Nat} (ht : 0 ≤ t ∧ t + 5 ≤ (Lx : Int)) (hL : Lx ≤ 5) (hI : INV sh b h) (hC : CR h) (hb : b ≤ 320000) (l0 : lk ls 0 = some (.ref 1000006)) (l1 : lk ls 1 = some (.ref 0)) (l2 : lk ls 2 = some (.ref 171)) (l3 : lk ls 3 = some (.ref 201)) (l4 : lk ls 4 = some (.int (I t))) (lo : lok ls = true) (hbc : 1 ≤ bc) (hbs : 6 ≤ bs)
    (hE : ∀ (ls' : List (Nat × Value)) (h' : aH) (bc' bs' : Nat), lk ls' 0 = some (.ref 1000006) → lk ls' 1 = some (.ref 0) → lk ls' 2 = some (.ref 171) → lk ls' 3 = some (.ref 201) → lk ls' 4 = some (.int (I t)) → lok ls' = true → INV sh (b + 600) h' → CRO h' → bc ≤ bc' + 1 → bs ≤ bs' + 6 → K 1694 ls' [] h' bc' bs') : K 841 ls [] h bc bs := by
  have hK := sub_K hK 18 (S := aS18) rfl
  have hmono := MONO_CLd SPt_mono 310
  refine x_aload_n 842 hK rfl rfl l1 ?_
  refine x_callV 845 hK hmono rfl rfl [.ref 0] [] rfl rfl (Nat.le_of_ble_eq_true rfl) (Nat.le_of_ble_eq_true rfl) rfl (s0_ hI) (pr_undo hI hC hb ) ?_
  rintro v1 h1 ⟨e1, re1, rfl, hG1, cl1⟩
  refine x_aload_n 846 hK rfl rfl l2 ?_
  refine x_callV 849 hK hmono rfl rfl [.ref 171] [.int (I (e1))] rfl rfl (Nat.le_of_ble_eq_true rfl) (Nat.le_of_ble_eq_true rfl) rfl (s171g_ hG1) cl1 ?_
  rintro v2 h2 ⟨e2, re2, rfl, ee2, hI2, hC2⟩
  rw [ee2 rfl]
  refine x_if_icmp_eq 1694 852 hK rfl rfl rfl re1 re1 (fun _ => ?_) (fun c9 => absurd rfl c9)
  exact hE _ _ _ _ l0 l1 l2 l3 l4 lo (hI2.mono (by omega)) trivial (by omega) (by omega)
set_option maxRecDepth 8000 in
theorem lc19 (hK : CLO (CLd SPt 310) ac9L_law (some .boolean) lwQ K) (hX : ∀ (pc : Nat) (ls : List (Nat × Value)) (st : List Value) (h : aH) (bc bs : Nat), lwXR Lx xs K pc ls st h bc bs → K pc ls st h bc bs) {t b : Int} {h : aH} {ls : List (Nat × Value)} {bc bs : Nat} (ht : 0 ≤ t ∧ t + 5 ≤ (Lx : Int)) (hL : Lx ≤ 5) (hI : INV sh b h) (hC : CR h) (hb : b ≤ 320000) (l0 : lk ls 0 = some (.ref 1000006)) (l1 : lk ls 1 = some (.ref 0)) (l2 : lk ls 2 = some (.ref 171)) (l3 : lk ls 3 = some (.ref 201)) (l4 : lk ls 4 = some (.int (I t))) (lo : lok ls = true) (hbc : 1 ≤ bc) (hbs : 6 ≤ bs)
    (hE : ∀ (ls' : List (Nat × Value)) (h' : aH) (bc' bs' : Nat), lk ls' 0 = some (.ref 1000006) → lk ls' 1 = some (.ref 0) → lk ls' 2 = some (.ref 171) → lk ls' 3 = some (.ref 201) → lk ls' 4 = some (.int (I t)) → lok ls' = true → INV sh (b + 600) h' → CRO h' → bc ≤ bc' + 1 → bs ≤ bs' + 6 → K 1694 ls' [] h' bc' bs') : K 854 ls [] h bc bs := by
  have hK := sub_K hK 19 (S := aS19) rfl
  have hmono := MONO_CLd SPt_mono 310
  refine x_aload_n 855 hK rfl rfl l1 ?_
  refine x_aload_n 856 hK rfl rfl l0 ?_
  refine x_iload 858 hK rfl rfl l4 ?_
  refine x_iconst 859 hK rfl rfl ?_
  refine x_iadd 860 hK rfl rfl ?_
  refine x_scr 861 19 hX rfl rfl rfl (by omega) (by omega) ?_
  refine x_callV 864 hK hmono rfl rfl [.ref 0, .int (I ((xs (t + 1).toNat).toInt))] [] rfl rfl (Nat.le_of_ble_eq_true rfl) (Nat.le_of_ble_eq_true rfl) rfl (s0_ hI) (pr_lane hI hC hb (r_I _)) ?_
  rintro v1 h1 ⟨e1, re1, rfl, hG1, cl1⟩
  refine x_aload_n 865 hK rfl rfl l2 ?_
  refine x_aload_n 866 hK rfl rfl l0 ?_
  refine x_iload 868 hK rfl rfl l4 ?_
  refine x_iconst 869 hK rfl rfl ?_
  refine x_iadd 870 hK rfl rfl ?_
  refine x_scr 871 19 hX rfl rfl rfl (by omega) (by omega) ?_
  refine x_callV 874 hK hmono rfl rfl [.ref 171, .int (I ((xs (t + 1).toNat).toInt))] [.int (I (e1))] rfl rfl (Nat.le_of_ble_eq_true rfl) (Nat.le_of_ble_eq_true rfl) rfl (s171g_ hG1) cl1 ?_
  rintro v2 h2 ⟨e2, re2, rfl, ee2, hI2, hC2⟩
  rw [ee2 rfl]
  refine x_if_icmp_eq 1694 877 hK rfl rfl rfl re1 re1 (fun _ => ?_) (fun c9 => absurd rfl c9)
  exact hE _ _ _ _ l0 l1 l2 l3 l4 lo (hI2.mono (by omega)) trivial (by omega) (by omega)
set_option maxRecDepth 8000 in
theorem lc20 (hK : CLO (CLd SPt 310) ac9L_law (some .boolean) lwQ K) (hX : ∀ (pc : Nat) (ls : List (Nat × Value)) (st : List Value) (h : aH) (bc bs : Nat), lwXR Lx xs K pc ls st h bc bs → K pc ls st h bc bs) {t b : Int} {h : aH} {ls : List (Nat × Value)} {bc bs : Nat} (ht : 0 ≤ t ∧ t + 5 ≤ (Lx : Int)) (hL : Lx ≤ 5) (hI : INV sh b h) (hC : CR h) (hb : b ≤ 320000) (l0 : lk ls 0 = some (.ref 1000006)) (l1 : lk ls 1 = some (.ref 0)) (l2 : lk ls 2 = some (.ref 171)) (l3 : lk ls 3 = some (.ref 201)) (l4 : lk ls 4 = some (.int (I t))) (lo : lok ls = true) (hbc : 1 ≤ bc) (hbs : 6 ≤ bs)
    (hE : ∀ (ls' : List (Nat × Value)) (h' : aH) (bc' bs' : Nat), lk ls' 0 = some (.ref 1000006) → lk ls' 1 = some (.ref 0) → lk ls' 2 = some (.ref 171) → lk ls' 3 = some (.ref 201) → lk ls' 4 = some (.int (I t)) → lok ls' = true → INV sh (b + 600) h' → CRO h' → bc ≤ bc' + 1 → bs ≤ bs' + 6 → K 1694 ls' [] h' bc' bs') : K 879 ls [] h bc bs := by
  have hK := sub_K hK 20 (S := aS20) rfl
  have hmono := MONO_CLd SPt_mono 310
  refine x_aload_n 880 hK rfl rfl l1 ?_
  refine x_callV 883 hK hmono rfl rfl [.ref 0] [] rfl rfl (Nat.le_of_ble_eq_true rfl) (Nat.le_of_ble_eq_true rfl) rfl (s0_ hI) (pr_strikes hI hC hb ) ?_
  rintro v1 h1 ⟨e1, re1, rfl, hG1, cl1⟩
  refine x_aload_n 884 hK rfl rfl l2 ?_
  refine x_callV 887 hK hmono rfl rfl [.ref 171] [.int (I (e1))] rfl rfl (Nat.le_of_ble_eq_true rfl) (Nat.le_of_ble_eq_true rfl) rfl (s171g_ hG1) cl1 ?_
  rintro v2 h2 ⟨e2, re2, rfl, ee2, hI2, hC2⟩
  rw [ee2 rfl]
  refine x_if_icmp_eq 1694 890 hK rfl rfl rfl re1 re1 (fun _ => ?_) (fun c9 => absurd rfl c9)
  exact hE _ _ _ _ l0 l1 l2 l3 l4 lo (hI2.mono (by omega)) trivial (by omega) (by omega)
set_option maxRecDepth 8000 in
theorem lc21 (hK : CLO (CLd SPt 310) ac9L_law (some .boolean) lwQ K) (hX : ∀ (pc : Nat) (ls : List (Nat × Value)) (st : List Value) (h : aH) (bc bs : Nat), lwXR Lx xs K pc ls st h bc bs → K pc ls st h bc bs) {t b : Int} {h : aH} {ls : List (Nat × Value)} {bc bs : Nat} (ht : 0 ≤ t ∧ t + 5 ≤ (Lx : Int)) (hL : Lx ≤ 5) (hI : INV sh b h) (hC : CR h) (hb : b ≤ 320000) (l0 : lk ls 0 = some (.ref 1000006)) (l1 : lk ls 1 = some (.ref 0)) (l2 : lk ls 2 = some (.ref 171)) (l3 : lk ls 3 = some (.ref 201)) (l4 : lk ls 4 = some (.int (I t))) (lo : lok ls = true) (hbc : 1 ≤ bc) (hbs : 6 ≤ bs)
    (hE : ∀ (ls' : List (Nat × Value)) (h' : aH) (bc' bs' : Nat), lk ls' 0 = some (.ref 1000006) → lk ls' 1 = some (.ref 0) → lk ls' 2 = some (.ref 171) → lk ls' 3 = some (.ref 201) → lk ls' 4 = some (.int (I t)) → lok ls' = true → INV sh (b + 600) h' → CRO h' → bc ≤ bc' + 1 → bs ≤ bs' + 6 → K 1694 ls' [] h' bc' bs') : K 892 ls [] h bc bs := by
  have hK := sub_K hK 21 (S := aS21) rfl
  have hmono := MONO_CLd SPt_mono 310
  refine x_aload_n 893 hK rfl rfl l1 ?_
  refine x_callV 896 hK hmono rfl rfl [.ref 0] [] rfl rfl (Nat.le_of_ble_eq_true rfl) (Nat.le_of_ble_eq_true rfl) rfl (s0_ hI) (pr_clears hI hC hb ) ?_
  rintro v1 h1 ⟨e1, re1, rfl, hG1, cl1⟩
  refine x_aload_n 897 hK rfl rfl l2 ?_
  refine x_callV 900 hK hmono rfl rfl [.ref 171] [.int (I (e1))] rfl rfl (Nat.le_of_ble_eq_true rfl) (Nat.le_of_ble_eq_true rfl) rfl (s171g_ hG1) cl1 ?_
  rintro v2 h2 ⟨e2, re2, rfl, ee2, hI2, hC2⟩
  rw [ee2 rfl]
  refine x_if_icmp_eq 1694 903 hK rfl rfl rfl re1 re1 (fun _ => ?_) (fun c9 => absurd rfl c9)
  exact hE _ _ _ _ l0 l1 l2 l3 l4 lo (hI2.mono (by omega)) trivial (by omega) (by omega)
set_option maxRecDepth 8000 in
theorem lc22 (hK : CLO (CLd SPt 310) ac9L_law (some .boolean) lwQ K) (hX : ∀ (pc : Nat) (ls : List (Nat × Value)) (st : List Value) (h : aH) (bc bs : Nat), lwXR Lx xs K pc ls st h bc bs → K pc ls st h bc bs) {t b : Int} {h : aH} {ls : List (Nat × Value)} {bc bs : Nat} (ht : 0 ≤ t ∧ t + 5 ≤ (Lx : Int)) (hL : Lx ≤ 5) (hI : INV sh b h) (hC : CR h) (hb : b ≤ 320000) (l0 : lk ls 0 = some (.ref 1000006)) (l1 : lk ls 1 = some (.ref 0)) (l2 : lk ls 2 = some (.ref 171)) (l3 : lk ls 3 = some (.ref 201)) (l4 : lk ls 4 = some (.int (I t))) (lo : lok ls = true) (hbc : 1 ≤ bc) (hbs : 6 ≤ bs)
    (hE : ∀ (ls' : List (Nat × Value)) (h' : aH) (bc' bs' : Nat), lk ls' 0 = some (.ref 1000006) → lk ls' 1 = some (.ref 0) → lk ls' 2 = some (.ref 171) → lk ls' 3 = some (.ref 201) → lk ls' 4 = some (.int (I t)) → lok ls' = true → INV sh (b + 600) h' → CRO h' → bc ≤ bc' + 1 → bs ≤ bs' + 6 → K 1694 ls' [] h' bc' bs') : K 905 ls [] h bc bs := by
  have hK := sub_K hK 22 (S := aS22) rfl
  have hmono := MONO_CLd SPt_mono 310
  refine x_aload_n 906 hK rfl rfl l1 ?_
  refine x_aload_n 907 hK rfl rfl l0 ?_
  refine x_iload 909 hK rfl rfl l4 ?_
  refine x_iconst 910 hK rfl rfl ?_
  refine x_iadd 911 hK rfl rfl ?_
  refine x_scr 912 22 hX rfl rfl rfl (by omega) (by omega) ?_
  refine x_callV 915 hK hmono rfl rfl [.ref 0, .int (I ((xs (t + 1).toNat).toInt))] [] rfl rfl (Nat.le_of_ble_eq_true rfl) (Nat.le_of_ble_eq_true rfl) rfl (s0_ hI) (pr_plan hI hC hb (r_I _)) ?_
  rintro v1 h1 ⟨e1, re1, rfl, hG1, cl1⟩
  refine x_aload_n 916 hK rfl rfl l2 ?_
  refine x_aload_n 917 hK rfl rfl l0 ?_
  refine x_iload 919 hK rfl rfl l4 ?_
  refine x_iconst 920 hK rfl rfl ?_
  refine x_iadd 921 hK rfl rfl ?_
  refine x_scr 922 22 hX rfl rfl rfl (by omega) (by omega) ?_
  refine x_callV 925 hK hmono rfl rfl [.ref 171, .int (I ((xs (t + 1).toNat).toInt))] [.int (I (e1))] rfl rfl (Nat.le_of_ble_eq_true rfl) (Nat.le_of_ble_eq_true rfl) rfl (s171g_ hG1) cl1 ?_
  rintro v2 h2 ⟨e2, re2, rfl, ee2, hI2, hC2⟩
  rw [ee2 rfl]
  refine x_if_icmp_eq 1694 928 hK rfl rfl rfl re1 re1 (fun _ => ?_) (fun c9 => absurd rfl c9)
  exact hE _ _ _ _ l0 l1 l2 l3 l4 lo (hI2.mono (by omega)) trivial (by omega) (by omega)
set_option maxRecDepth 8000 in
theorem lc23 (hK : CLO (CLd SPt 310) ac9L_law (some .boolean) lwQ K) (hX : ∀ (pc : Nat) (ls : List (Nat × Value)) (st : List Value) (h : aH) (bc bs : Nat), lwXR Lx xs K pc ls st h bc bs → K pc ls st h bc bs) {t b : Int} {h : aH} {ls : List (Nat × Value)} {bc bs : Nat} (ht : 0 ≤ t ∧ t + 5 ≤ (Lx : Int)) (hL : Lx ≤ 5) (hI : INV sh b h) (hC : CR h) (hb : b ≤ 320000) (l0 : lk ls 0 = some (.ref 1000006)) (l1 : lk ls 1 = some (.ref 0)) (l2 : lk ls 2 = some (.ref 171)) (l3 : lk ls 3 = some (.ref 201)) (l4 : lk ls 4 = some (.int (I t))) (lo : lok ls = true) (hbc : 1 ≤ bc) (hbs : 6 ≤ bs)
    (hE : ∀ (ls' : List (Nat × Value)) (h' : aH) (bc' bs' : Nat), lk ls' 0 = some (.ref 1000006) → lk ls' 1 = some (.ref 0) → lk ls' 2 = some (.ref 171) → lk ls' 3 = some (.ref 201) → lk ls' 4 = some (.int (I t)) → lok ls' = true → INV sh (b + 600) h' → CRO h' → bc ≤ bc' + 1 → bs ≤ bs' + 6 → K 1694 ls' [] h' bc' bs') : K 930 ls [] h bc bs := by
  have hK := sub_K hK 23 (S := aS23) rfl
  have hmono := MONO_CLd SPt_mono 310
  refine x_aload_n 931 hK rfl rfl l1 ?_
  refine x_aload_n 932 hK rfl rfl l0 ?_
  refine x_iload 934 hK rfl rfl l4 ?_
  refine x_iconst 935 hK rfl rfl ?_
  refine x_iadd 936 hK rfl rfl ?_
  refine x_scr 937 23 hX rfl rfl rfl (by omega) (by omega) ?_
  refine x_callV 940 hK hmono rfl rfl [.ref 0, .int (I ((xs (t + 1).toNat).toInt))] [] rfl rfl (Nat.le_of_ble_eq_true rfl) (Nat.le_of_ble_eq_true rfl) rfl (s0_ hI) (pr_latest hI hC hb (r_I _)) ?_
  rintro v1 h1 ⟨e1, re1, rfl, hG1, cl1⟩
  refine x_aload_n 941 hK rfl rfl l2 ?_
  refine x_aload_n 942 hK rfl rfl l0 ?_
  refine x_iload 944 hK rfl rfl l4 ?_
  refine x_iconst 945 hK rfl rfl ?_
  refine x_iadd 946 hK rfl rfl ?_
  refine x_scr 947 23 hX rfl rfl rfl (by omega) (by omega) ?_
  refine x_callV 950 hK hmono rfl rfl [.ref 171, .int (I ((xs (t + 1).toNat).toInt))] [.int (I (e1))] rfl rfl (Nat.le_of_ble_eq_true rfl) (Nat.le_of_ble_eq_true rfl) rfl (s171g_ hG1) cl1 ?_
  rintro v2 h2 ⟨e2, re2, rfl, ee2, hI2, hC2⟩
  rw [ee2 rfl]
  refine x_if_icmp_eq 1694 953 hK rfl rfl rfl re1 re1 (fun _ => ?_) (fun c9 => absurd rfl c9)
  exact hE _ _ _ _ l0 l1 l2 l3 l4 lo (hI2.mono (by omega)) trivial (by omega) (by omega)
set_option maxRecDepth 8000 in
theorem lc24 (hK : CLO (CLd SPt 310) ac9L_law (some .boolean) lwQ K) (hX : ∀ (pc : Nat) (ls : List (Nat × Value)) (st : List Value) (h : aH) (bc bs : Nat), lwXR Lx xs K pc ls st h bc bs → K pc ls st h bc bs) {t b : Int} {h : aH} {ls : List (Nat × Value)} {bc bs : Nat} (ht : 0 ≤ t ∧ t + 5 ≤ (Lx : Int)) (hL : Lx ≤ 5) (hI : INV sh b h) (hC : CR h) (hb : b ≤ 320000) (l0 : lk ls 0 = some (.ref 1000006)) (l1 : lk ls 1 = some (.ref 0)) (l2 : lk ls 2 = some (.ref 171)) (l3 : lk ls 3 = some (.ref 201)) (l4 : lk ls 4 = some (.int (I t))) (lo : lok ls = true) (hbc : 1 ≤ bc) (hbs : 6 ≤ bs)
    (hE : ∀ (ls' : List (Nat × Value)) (h' : aH) (bc' bs' : Nat), lk ls' 0 = some (.ref 1000006) → lk ls' 1 = some (.ref 0) → lk ls' 2 = some (.ref 171) → lk ls' 3 = some (.ref 201) → lk ls' 4 = some (.int (I t)) → lok ls' = true → INV sh (b + 600) h' → CRO h' → bc ≤ bc' + 1 → bs ≤ bs' + 6 → K 1694 ls' [] h' bc' bs') : K 955 ls [] h bc bs := by
  have hK := sub_K hK 24 (S := aS24) rfl
  have hmono := MONO_CLd SPt_mono 310
  refine x_aload_n 956 hK rfl rfl l1 ?_
  refine x_aload_n 957 hK rfl rfl l0 ?_
  refine x_iload 959 hK rfl rfl l4 ?_
  refine x_iconst 960 hK rfl rfl ?_
  refine x_iadd 961 hK rfl rfl ?_
  refine x_scr 962 24 hX rfl rfl rfl (by omega) (by omega) ?_
  refine x_callV 965 hK hmono rfl rfl [.ref 0, .int (I ((xs (t + 1).toNat).toInt))] [] rfl rfl (Nat.le_of_ble_eq_true rfl) (Nat.le_of_ble_eq_true rfl) rfl (s0_ hI) (pr_lanes hI hC hb (r_I _)) ?_
  rintro v1 h1 ⟨e1, re1, rfl, hG1, cl1⟩
  refine x_aload_n 966 hK rfl rfl l2 ?_
  refine x_aload_n 967 hK rfl rfl l0 ?_
  refine x_iload 969 hK rfl rfl l4 ?_
  refine x_iconst 970 hK rfl rfl ?_
  refine x_iadd 971 hK rfl rfl ?_
  refine x_scr 972 24 hX rfl rfl rfl (by omega) (by omega) ?_
  refine x_callV 975 hK hmono rfl rfl [.ref 171, .int (I ((xs (t + 1).toNat).toInt))] [.int (I (e1))] rfl rfl (Nat.le_of_ble_eq_true rfl) (Nat.le_of_ble_eq_true rfl) rfl (s171g_ hG1) cl1 ?_
  rintro v2 h2 ⟨e2, re2, rfl, ee2, hI2, hC2⟩
  rw [ee2 rfl]
  refine x_if_icmp_eq 1694 978 hK rfl rfl rfl re1 re1 (fun _ => ?_) (fun c9 => absurd rfl c9)
  exact hE _ _ _ _ l0 l1 l2 l3 l4 lo (hI2.mono (by omega)) trivial (by omega) (by omega)
set_option maxRecDepth 8000 in
theorem lc25 (hK : CLO (CLd SPt 310) ac9L_law (some .boolean) lwQ K) (hX : ∀ (pc : Nat) (ls : List (Nat × Value)) (st : List Value) (h : aH) (bc bs : Nat), lwXR Lx xs K pc ls st h bc bs → K pc ls st h bc bs) {t b : Int} {h : aH} {ls : List (Nat × Value)} {bc bs : Nat} (ht : 0 ≤ t ∧ t + 5 ≤ (Lx : Int)) (hL : Lx ≤ 5) (hI : INV sh b h) (hC : CR h) (hb : b ≤ 320000) (l0 : lk ls 0 = some (.ref 1000006)) (l1 : lk ls 1 = some (.ref 0)) (l2 : lk ls 2 = some (.ref 171)) (l3 : lk ls 3 = some (.ref 201)) (l4 : lk ls 4 = some (.int (I t))) (lo : lok ls = true) (hbc : 1 ≤ bc) (hbs : 6 ≤ bs)
    (hE : ∀ (ls' : List (Nat × Value)) (h' : aH) (bc' bs' : Nat), lk ls' 0 = some (.ref 1000006) → lk ls' 1 = some (.ref 0) → lk ls' 2 = some (.ref 171) → lk ls' 3 = some (.ref 201) → lk ls' 4 = some (.int (I t)) → lok ls' = true → INV sh (b + 600) h' → CRO h' → bc ≤ bc' + 1 → bs ≤ bs' + 6 → K 1694 ls' [] h' bc' bs') : K 980 ls [] h bc bs := by
  have hK := sub_K hK 25 (S := aS25) rfl
  have hmono := MONO_CLd SPt_mono 310
  refine x_aload_n 981 hK rfl rfl l1 ?_
  refine x_aload_n 982 hK rfl rfl l0 ?_
  refine x_iload 984 hK rfl rfl l4 ?_
  refine x_iconst 985 hK rfl rfl ?_
  refine x_iadd 986 hK rfl rfl ?_
  refine x_scr 987 25 hX rfl rfl rfl (by omega) (by omega) ?_
  refine x_callV 990 hK hmono rfl rfl [.ref 0, .int (I ((xs (t + 1).toNat).toInt))] [] rfl rfl (Nat.le_of_ble_eq_true rfl) (Nat.le_of_ble_eq_true rfl) rfl (s0_ hI) (pr_safest hI hC hb (r_I _)) ?_
  rintro v1 h1 ⟨e1, re1, rfl, hG1, cl1⟩
  refine x_aload_n 991 hK rfl rfl l2 ?_
  refine x_aload_n 992 hK rfl rfl l0 ?_
  refine x_iload 994 hK rfl rfl l4 ?_
  refine x_iconst 995 hK rfl rfl ?_
  refine x_iadd 996 hK rfl rfl ?_
  refine x_scr 997 25 hX rfl rfl rfl (by omega) (by omega) ?_
  refine x_callV 1000 hK hmono rfl rfl [.ref 171, .int (I ((xs (t + 1).toNat).toInt))] [.int (I (e1))] rfl rfl (Nat.le_of_ble_eq_true rfl) (Nat.le_of_ble_eq_true rfl) rfl (s171g_ hG1) cl1 ?_
  rintro v2 h2 ⟨e2, re2, rfl, ee2, hI2, hC2⟩
  rw [ee2 rfl]
  refine x_if_icmp_eq 1694 1003 hK rfl rfl rfl re1 re1 (fun _ => ?_) (fun c9 => absurd rfl c9)
  exact hE _ _ _ _ l0 l1 l2 l3 l4 lo (hI2.mono (by omega)) trivial (by omega) (by omega)
set_option maxRecDepth 8000 in
theorem lc26 (hK : CLO (CLd SPt 310) ac9L_law (some .boolean) lwQ K) (hX : ∀ (pc : Nat) (ls : List (Nat × Value)) (st : List Value) (h : aH) (bc bs : Nat), lwXR Lx xs K pc ls st h bc bs → K pc ls st h bc bs) {t b : Int} {h : aH} {ls : List (Nat × Value)} {bc bs : Nat} (ht : 0 ≤ t ∧ t + 5 ≤ (Lx : Int)) (hL : Lx ≤ 5) (hI : INV sh b h) (hC : CR h) (hb : b ≤ 320000) (l0 : lk ls 0 = some (.ref 1000006)) (l1 : lk ls 1 = some (.ref 0)) (l2 : lk ls 2 = some (.ref 171)) (l3 : lk ls 3 = some (.ref 201)) (l4 : lk ls 4 = some (.int (I t))) (lo : lok ls = true) (hbc : 1 ≤ bc) (hbs : 6 ≤ bs)
    (hE : ∀ (ls' : List (Nat × Value)) (h' : aH) (bc' bs' : Nat), lk ls' 0 = some (.ref 1000006) → lk ls' 1 = some (.ref 0) → lk ls' 2 = some (.ref 171) → lk ls' 3 = some (.ref 201) → lk ls' 4 = some (.int (I t)) → lok ls' = true → INV sh (b + 600) h' → CRO h' → bc ≤ bc' + 1 → bs ≤ bs' + 6 → K 1694 ls' [] h' bc' bs') : K 1005 ls [] h bc bs := by
  have hK := sub_K hK 26 (S := aS26) rfl
  have hmono := MONO_CLd SPt_mono 310
  refine x_aload_n 1006 hK rfl rfl l1 ?_
  refine x_aload_n 1007 hK rfl rfl l0 ?_
  refine x_iload 1009 hK rfl rfl l4 ?_
  refine x_iconst 1010 hK rfl rfl ?_
  refine x_iadd 1011 hK rfl rfl ?_
  refine x_scr 1012 26 hX rfl rfl rfl (by omega) (by omega) ?_
  refine x_callV 1015 hK hmono rfl rfl [.ref 0, .int (I ((xs (t + 1).toNat).toInt))] [] rfl rfl (Nat.le_of_ble_eq_true rfl) (Nat.le_of_ble_eq_true rfl) rfl (s0_ hI) (pr_late hI hC hb (r_I _)) ?_
  rintro v1 h1 ⟨e1, re1, rfl, hG1, cl1⟩
  refine x_aload_n 1016 hK rfl rfl l2 ?_
  refine x_aload_n 1017 hK rfl rfl l0 ?_
  refine x_iload 1019 hK rfl rfl l4 ?_
  refine x_iconst 1020 hK rfl rfl ?_
  refine x_iadd 1021 hK rfl rfl ?_
  refine x_scr 1022 26 hX rfl rfl rfl (by omega) (by omega) ?_
  refine x_callV 1025 hK hmono rfl rfl [.ref 171, .int (I ((xs (t + 1).toNat).toInt))] [.int (I (e1))] rfl rfl (Nat.le_of_ble_eq_true rfl) (Nat.le_of_ble_eq_true rfl) rfl (s171g_ hG1) cl1 ?_
  rintro v2 h2 ⟨e2, re2, rfl, ee2, hI2, hC2⟩
  rw [ee2 rfl]
  refine x_if_icmp_eq 1694 1028 hK rfl rfl rfl re1 re1 (fun _ => ?_) (fun c9 => absurd rfl c9)
  exact hE _ _ _ _ l0 l1 l2 l3 l4 lo (hI2.mono (by omega)) trivial (by omega) (by omega)
set_option maxRecDepth 8000 in
theorem lc27 (hK : CLO (CLd SPt 310) ac9L_law (some .boolean) lwQ K) (hX : ∀ (pc : Nat) (ls : List (Nat × Value)) (st : List Value) (h : aH) (bc bs : Nat), lwXR Lx xs K pc ls st h bc bs → K pc ls st h bc bs) {t b : Int} {h : aH} {ls : List (Nat × Value)} {bc bs : Nat} (ht : 0 ≤ t ∧ t + 5 ≤ (Lx : Int)) (hL : Lx ≤ 5) (hI : INV sh b h) (hC : CR h) (hb : b ≤ 320000) (l0 : lk ls 0 = some (.ref 1000006)) (l1 : lk ls 1 = some (.ref 0)) (l2 : lk ls 2 = some (.ref 171)) (l3 : lk ls 3 = some (.ref 201)) (l4 : lk ls 4 = some (.int (I t))) (lo : lok ls = true) (hbc : 1 ≤ bc) (hbs : 6 ≤ bs)
    (hE : ∀ (ls' : List (Nat × Value)) (h' : aH) (bc' bs' : Nat), lk ls' 0 = some (.ref 1000006) → lk ls' 1 = some (.ref 0) → lk ls' 2 = some (.ref 171) → lk ls' 3 = some (.ref 201) → lk ls' 4 = some (.int (I t)) → lok ls' = true → INV sh (b + 600) h' → CRO h' → bc ≤ bc' + 1 → bs ≤ bs' + 6 → K 1694 ls' [] h' bc' bs') : K 1030 ls [] h bc bs := by
  have hK := sub_K hK 27 (S := aS27) rfl
  have hmono := MONO_CLd SPt_mono 310
  refine x_aload_n 1031 hK rfl rfl l1 ?_
  refine x_aload_n 1032 hK rfl rfl l0 ?_
  refine x_iload 1034 hK rfl rfl l4 ?_
  refine x_iconst 1035 hK rfl rfl ?_
  refine x_iadd 1036 hK rfl rfl ?_
  refine x_scr 1037 27 hX rfl rfl rfl (by omega) (by omega) ?_
  refine x_callV 1040 hK hmono rfl rfl [.ref 0, .int (I ((xs (t + 1).toNat).toInt))] [] rfl rfl (Nat.le_of_ble_eq_true rfl) (Nat.le_of_ble_eq_true rfl) rfl (s0_ hI) (pr_comes hI hC hb (r_I _)) ?_
  rintro v1 h1 ⟨e1, re1, rfl, hG1, cl1⟩
  refine x_aload_n 1041 hK rfl rfl l2 ?_
  refine x_aload_n 1042 hK rfl rfl l0 ?_
  refine x_iload 1044 hK rfl rfl l4 ?_
  refine x_iconst 1045 hK rfl rfl ?_
  refine x_iadd 1046 hK rfl rfl ?_
  refine x_scr 1047 27 hX rfl rfl rfl (by omega) (by omega) ?_
  refine x_callV 1050 hK hmono rfl rfl [.ref 171, .int (I ((xs (t + 1).toNat).toInt))] [.int (I (e1))] rfl rfl (Nat.le_of_ble_eq_true rfl) (Nat.le_of_ble_eq_true rfl) rfl (s171g_ hG1) cl1 ?_
  rintro v2 h2 ⟨e2, re2, rfl, ee2, hI2, hC2⟩
  rw [ee2 rfl]
  refine x_if_icmp_eq 1694 1053 hK rfl rfl rfl re1 re1 (fun _ => ?_) (fun c9 => absurd rfl c9)
  exact hE _ _ _ _ l0 l1 l2 l3 l4 lo (hI2.mono (by omega)) trivial (by omega) (by omega)
set_option maxRecDepth 8000 in
theorem lc28 (hK : CLO (CLd SPt 310) ac9L_law (some .boolean) lwQ K) (hX : ∀ (pc : Nat) (ls : List (Nat × Value)) (st : List Value) (h : aH) (bc bs : Nat), lwXR Lx xs K pc ls st h bc bs → K pc ls st h bc bs) {t b : Int} {h : aH} {ls : List (Nat × Value)} {bc bs : Nat} (ht : 0 ≤ t ∧ t + 5 ≤ (Lx : Int)) (hL : Lx ≤ 5) (hI : INV sh b h) (hC : CR h) (hb : b ≤ 320000) (l0 : lk ls 0 = some (.ref 1000006)) (l1 : lk ls 1 = some (.ref 0)) (l2 : lk ls 2 = some (.ref 171)) (l3 : lk ls 3 = some (.ref 201)) (l4 : lk ls 4 = some (.int (I t))) (lo : lok ls = true) (hbc : 1 ≤ bc) (hbs : 6 ≤ bs)
    (hE : ∀ (ls' : List (Nat × Value)) (h' : aH) (bc' bs' : Nat), lk ls' 0 = some (.ref 1000006) → lk ls' 1 = some (.ref 0) → lk ls' 2 = some (.ref 171) → lk ls' 3 = some (.ref 201) → lk ls' 4 = some (.int (I t)) → lok ls' = true → INV sh (b + 600) h' → CRO h' → bc ≤ bc' + 1 → bs ≤ bs' + 6 → K 1694 ls' [] h' bc' bs') : K 1055 ls [] h bc bs := by
  have hK := sub_K hK 28 (S := aS28) rfl
  have hmono := MONO_CLd SPt_mono 310
  refine x_aload_n 1056 hK rfl rfl l1 ?_
  refine x_aload_n 1057 hK rfl rfl l0 ?_
  refine x_iload 1059 hK rfl rfl l4 ?_
  refine x_iconst 1060 hK rfl rfl ?_
  refine x_iadd 1061 hK rfl rfl ?_
  refine x_scr 1062 28 hX rfl rfl rfl (by omega) (by omega) ?_
  refine x_callV 1065 hK hmono rfl rfl [.ref 0, .int (I ((xs (t + 1).toNat).toInt))] [] rfl rfl (Nat.le_of_ble_eq_true rfl) (Nat.le_of_ble_eq_true rfl) rfl (s0_ hI) (pr_relay hI hC hb (r_I _)) ?_
  rintro v1 h1 ⟨e1, re1, rfl, hG1, cl1⟩
  refine x_aload_n 1066 hK rfl rfl l2 ?_
  refine x_aload_n 1067 hK rfl rfl l0 ?_
  refine x_iload 1069 hK rfl rfl l4 ?_
  refine x_iconst 1070 hK rfl rfl ?_
  refine x_iadd 1071 hK rfl rfl ?_
  refine x_scr 1072 28 hX rfl rfl rfl (by omega) (by omega) ?_
  refine x_callV 1075 hK hmono rfl rfl [.ref 171, .int (I ((xs (t + 1).toNat).toInt))] [.int (I (e1))] rfl rfl (Nat.le_of_ble_eq_true rfl) (Nat.le_of_ble_eq_true rfl) rfl (s171g_ hG1) cl1 ?_
  rintro v2 h2 ⟨e2, re2, rfl, ee2, hI2, hC2⟩
  rw [ee2 rfl]
  refine x_if_icmp_eq 1694 1078 hK rfl rfl rfl re1 re1 (fun _ => ?_) (fun c9 => absurd rfl c9)
  exact hE _ _ _ _ l0 l1 l2 l3 l4 lo (hI2.mono (by omega)) trivial (by omega) (by omega)
set_option maxRecDepth 8000 in
theorem lc29 (hK : CLO (CLd SPt 310) ac9L_law (some .boolean) lwQ K) (hX : ∀ (pc : Nat) (ls : List (Nat × Value)) (st : List Value) (h : aH) (bc bs : Nat), lwXR Lx xs K pc ls st h bc bs → K pc ls st h bc bs) {t b : Int} {h : aH} {ls : List (Nat × Value)} {bc bs : Nat} (ht : 0 ≤ t ∧ t + 5 ≤ (Lx : Int)) (hL : Lx ≤ 5) (hI : INV sh b h) (hC : CR h) (hb : b ≤ 320000) (l0 : lk ls 0 = some (.ref 1000006)) (l1 : lk ls 1 = some (.ref 0)) (l2 : lk ls 2 = some (.ref 171)) (l3 : lk ls 3 = some (.ref 201)) (l4 : lk ls 4 = some (.int (I t))) (lo : lok ls = true) (hbc : 1 ≤ bc) (hbs : 6 ≤ bs)
    (hE : ∀ (ls' : List (Nat × Value)) (h' : aH) (bc' bs' : Nat), lk ls' 0 = some (.ref 1000006) → lk ls' 1 = some (.ref 0) → lk ls' 2 = some (.ref 171) → lk ls' 3 = some (.ref 201) → lk ls' 4 = some (.int (I t)) → lok ls' = true → INV sh (b + 600) h' → CRO h' → bc ≤ bc' + 1 → bs ≤ bs' + 6 → K 1694 ls' [] h' bc' bs') : K 1080 ls [] h bc bs := by
  have hK := sub_K hK 29 (S := aS29) rfl
  have hmono := MONO_CLd SPt_mono 310
  refine x_aload_n 1081 hK rfl rfl l1 ?_
  refine x_aload_n 1082 hK rfl rfl l0 ?_
  refine x_iload 1084 hK rfl rfl l4 ?_
  refine x_iconst 1085 hK rfl rfl ?_
  refine x_iadd 1086 hK rfl rfl ?_
  refine x_scr 1087 29 hX rfl rfl rfl (by omega) (by omega) ?_
  refine x_callV 1090 hK hmono rfl rfl [.ref 0, .int (I ((xs (t + 1).toNat).toInt))] [] rfl rfl (Nat.le_of_ble_eq_true rfl) (Nat.le_of_ble_eq_true rfl) rfl (s0_ hI) (pr_fewest hI hC hb (r_I _)) ?_
  rintro v1 h1 ⟨e1, re1, rfl, hG1, cl1⟩
  refine x_aload_n 1091 hK rfl rfl l2 ?_
  refine x_aload_n 1092 hK rfl rfl l0 ?_
  refine x_iload 1094 hK rfl rfl l4 ?_
  refine x_iconst 1095 hK rfl rfl ?_
  refine x_iadd 1096 hK rfl rfl ?_
  refine x_scr 1097 29 hX rfl rfl rfl (by omega) (by omega) ?_
  refine x_callV 1100 hK hmono rfl rfl [.ref 171, .int (I ((xs (t + 1).toNat).toInt))] [.int (I (e1))] rfl rfl (Nat.le_of_ble_eq_true rfl) (Nat.le_of_ble_eq_true rfl) rfl (s171g_ hG1) cl1 ?_
  rintro v2 h2 ⟨e2, re2, rfl, ee2, hI2, hC2⟩
  rw [ee2 rfl]
  refine x_if_icmp_eq 1694 1103 hK rfl rfl rfl re1 re1 (fun _ => ?_) (fun c9 => absurd rfl c9)
  exact hE _ _ _ _ l0 l1 l2 l3 l4 lo (hI2.mono (by omega)) trivial (by omega) (by omega)
set_option maxRecDepth 8000 in
theorem lc30 (hK : CLO (CLd SPt 310) ac9L_law (some .boolean) lwQ K) (hX : ∀ (pc : Nat) (ls : List (Nat × Value)) (st : List Value) (h : aH) (bc bs : Nat), lwXR Lx xs K pc ls st h bc bs → K pc ls st h bc bs) {t b : Int} {h : aH} {ls : List (Nat × Value)} {bc bs : Nat} (ht : 0 ≤ t ∧ t + 5 ≤ (Lx : Int)) (hL : Lx ≤ 5) (hI : INV sh b h) (hC : CR h) (hb : b ≤ 320000) (l0 : lk ls 0 = some (.ref 1000006)) (l1 : lk ls 1 = some (.ref 0)) (l2 : lk ls 2 = some (.ref 171)) (l3 : lk ls 3 = some (.ref 201)) (l4 : lk ls 4 = some (.int (I t))) (lo : lok ls = true) (hbc : 1 ≤ bc) (hbs : 6 ≤ bs)
    (hE : ∀ (ls' : List (Nat × Value)) (h' : aH) (bc' bs' : Nat), lk ls' 0 = some (.ref 1000006) → lk ls' 1 = some (.ref 0) → lk ls' 2 = some (.ref 171) → lk ls' 3 = some (.ref 201) → lk ls' 4 = some (.int (I t)) → lok ls' = true → INV sh (b + 600) h' → CRO h' → bc ≤ bc' + 1 → bs ≤ bs' + 6 → K 1694 ls' [] h' bc' bs') : K 1105 ls [] h bc bs := by
  have hK := sub_K hK 30 (S := aS30) rfl
  have hmono := MONO_CLd SPt_mono 310
  refine x_aload_n 1106 hK rfl rfl l1 ?_
  refine x_aload_n 1107 hK rfl rfl l0 ?_
  refine x_iload 1109 hK rfl rfl l4 ?_
  refine x_iconst 1110 hK rfl rfl ?_
  refine x_iadd 1111 hK rfl rfl ?_
  refine x_scr 1112 30 hX rfl rfl rfl (by omega) (by omega) ?_
  refine x_aload_n 1113 hK rfl rfl l0 ?_
  refine x_iload 1115 hK rfl rfl l4 ?_
  refine x_iconst 1116 hK rfl rfl ?_
  refine x_iadd 1117 hK rfl rfl ?_
  refine x_scr 1118 30 hX rfl rfl rfl (by omega) (by omega) ?_
  refine x_callV 1121 hK hmono rfl rfl [.ref 0, .int (I ((xs (t + 1).toNat).toInt)), .int (I ((xs (t + 2).toNat).toInt))] [] rfl rfl (Nat.le_of_ble_eq_true rfl) (Nat.le_of_ble_eq_true rfl) rfl (s0_ hI) (pr_word hI hC hb (r_I _) (r_I _)) ?_
  rintro v1 h1 ⟨e1, re1, rfl, hG1, cl1⟩
  refine x_aload_n 1122 hK rfl rfl l2 ?_
  refine x_aload_n 1123 hK rfl rfl l0 ?_
  refine x_iload 1125 hK rfl rfl l4 ?_
  refine x_iconst 1126 hK rfl rfl ?_
  refine x_iadd 1127 hK rfl rfl ?_
  refine x_scr 1128 30 hX rfl rfl rfl (by omega) (by omega) ?_
  refine x_aload_n 1129 hK rfl rfl l0 ?_
  refine x_iload 1131 hK rfl rfl l4 ?_
  refine x_iconst 1132 hK rfl rfl ?_
  refine x_iadd 1133 hK rfl rfl ?_
  refine x_scr 1134 30 hX rfl rfl rfl (by omega) (by omega) ?_
  refine x_callV 1137 hK hmono rfl rfl [.ref 171, .int (I ((xs (t + 1).toNat).toInt)), .int (I ((xs (t + 2).toNat).toInt))] [.int (I (e1))] rfl rfl (Nat.le_of_ble_eq_true rfl) (Nat.le_of_ble_eq_true rfl) rfl (s171g_ hG1) cl1 ?_
  rintro v2 h2 ⟨e2, re2, rfl, ee2, hI2, hC2⟩
  rw [ee2 rfl]
  refine x_if_icmp_eq 1694 1140 hK rfl rfl rfl re1 re1 (fun _ => ?_) (fun c9 => absurd rfl c9)
  exact hE _ _ _ _ l0 l1 l2 l3 l4 lo (hI2.mono (by omega)) trivial (by omega) (by omega)
set_option maxRecDepth 8000 in
theorem lc31 (hK : CLO (CLd SPt 310) ac9L_law (some .boolean) lwQ K) (hX : ∀ (pc : Nat) (ls : List (Nat × Value)) (st : List Value) (h : aH) (bc bs : Nat), lwXR Lx xs K pc ls st h bc bs → K pc ls st h bc bs) {t b : Int} {h : aH} {ls : List (Nat × Value)} {bc bs : Nat} (ht : 0 ≤ t ∧ t + 5 ≤ (Lx : Int)) (hL : Lx ≤ 5) (hI : INV sh b h) (hC : CR h) (hb : b ≤ 320000) (l0 : lk ls 0 = some (.ref 1000006)) (l1 : lk ls 1 = some (.ref 0)) (l2 : lk ls 2 = some (.ref 171)) (l3 : lk ls 3 = some (.ref 201)) (l4 : lk ls 4 = some (.int (I t))) (lo : lok ls = true) (hbc : 1 ≤ bc) (hbs : 6 ≤ bs)
    (hE : ∀ (ls' : List (Nat × Value)) (h' : aH) (bc' bs' : Nat), lk ls' 0 = some (.ref 1000006) → lk ls' 1 = some (.ref 0) → lk ls' 2 = some (.ref 171) → lk ls' 3 = some (.ref 201) → lk ls' 4 = some (.int (I t)) → lok ls' = true → INV sh (b + 600) h' → CRO h' → bc ≤ bc' + 1 → bs ≤ bs' + 6 → K 1694 ls' [] h' bc' bs') : K 1142 ls [] h bc bs := by
  have hK := sub_K hK 31 (S := aS31) rfl
  have hmono := MONO_CLd SPt_mono 310
  refine x_aload_n 1143 hK rfl rfl l1 ?_
  refine x_aload_n 1144 hK rfl rfl l0 ?_
  refine x_iload 1146 hK rfl rfl l4 ?_
  refine x_iconst 1147 hK rfl rfl ?_
  refine x_iadd 1148 hK rfl rfl ?_
  refine x_scr 1149 31 hX rfl rfl rfl (by omega) (by omega) ?_
  refine x_aload_n 1150 hK rfl rfl l0 ?_
  refine x_iload 1152 hK rfl rfl l4 ?_
  refine x_iconst 1153 hK rfl rfl ?_
  refine x_iadd 1154 hK rfl rfl ?_
  refine x_scr 1155 31 hX rfl rfl rfl (by omega) (by omega) ?_
  refine x_callV 1158 hK hmono rfl rfl [.ref 0, .int (I ((xs (t + 1).toNat).toInt)), .int (I ((xs (t + 2).toNat).toInt))] [] rfl rfl (Nat.le_of_ble_eq_true rfl) (Nat.le_of_ble_eq_true rfl) rfl (s0_ hI) (pr_survives hI hC hb (r_I _) (r_I _)) ?_
  rintro v1 h1 ⟨e1, re1, rfl, hG1, cl1⟩
  refine x_aload_n 1159 hK rfl rfl l2 ?_
  refine x_aload_n 1160 hK rfl rfl l0 ?_
  refine x_iload 1162 hK rfl rfl l4 ?_
  refine x_iconst 1163 hK rfl rfl ?_
  refine x_iadd 1164 hK rfl rfl ?_
  refine x_scr 1165 31 hX rfl rfl rfl (by omega) (by omega) ?_
  refine x_aload_n 1166 hK rfl rfl l0 ?_
  refine x_iload 1168 hK rfl rfl l4 ?_
  refine x_iconst 1169 hK rfl rfl ?_
  refine x_iadd 1170 hK rfl rfl ?_
  refine x_scr 1171 31 hX rfl rfl rfl (by omega) (by omega) ?_
  refine x_callV 1174 hK hmono rfl rfl [.ref 171, .int (I ((xs (t + 1).toNat).toInt)), .int (I ((xs (t + 2).toNat).toInt))] [.int (I (e1))] rfl rfl (Nat.le_of_ble_eq_true rfl) (Nat.le_of_ble_eq_true rfl) rfl (s171g_ hG1) cl1 ?_
  rintro v2 h2 ⟨e2, re2, rfl, ee2, hI2, hC2⟩
  rw [ee2 rfl]
  refine x_if_icmp_eq 1694 1177 hK rfl rfl rfl re1 re1 (fun _ => ?_) (fun c9 => absurd rfl c9)
  exact hE _ _ _ _ l0 l1 l2 l3 l4 lo (hI2.mono (by omega)) trivial (by omega) (by omega)
set_option maxRecDepth 8000 in
theorem lc32 (hK : CLO (CLd SPt 310) ac9L_law (some .boolean) lwQ K) (hX : ∀ (pc : Nat) (ls : List (Nat × Value)) (st : List Value) (h : aH) (bc bs : Nat), lwXR Lx xs K pc ls st h bc bs → K pc ls st h bc bs) {t b : Int} {h : aH} {ls : List (Nat × Value)} {bc bs : Nat} (ht : 0 ≤ t ∧ t + 5 ≤ (Lx : Int)) (hL : Lx ≤ 5) (hI : INV sh b h) (hC : CR h) (hb : b ≤ 320000) (l0 : lk ls 0 = some (.ref 1000006)) (l1 : lk ls 1 = some (.ref 0)) (l2 : lk ls 2 = some (.ref 171)) (l3 : lk ls 3 = some (.ref 201)) (l4 : lk ls 4 = some (.int (I t))) (lo : lok ls = true) (hbc : 1 ≤ bc) (hbs : 6 ≤ bs)
    (hE : ∀ (ls' : List (Nat × Value)) (h' : aH) (bc' bs' : Nat), lk ls' 0 = some (.ref 1000006) → lk ls' 1 = some (.ref 0) → lk ls' 2 = some (.ref 171) → lk ls' 3 = some (.ref 201) → lk ls' 4 = some (.int (I t)) → lok ls' = true → INV sh (b + 600) h' → CRO h' → bc ≤ bc' + 1 → bs ≤ bs' + 6 → K 1694 ls' [] h' bc' bs') : K 1179 ls [] h bc bs := by
  have hK := sub_K hK 32 (S := aS32) rfl
  have hmono := MONO_CLd SPt_mono 310
  refine x_aload_n 1180 hK rfl rfl l1 ?_
  refine x_aload_n 1181 hK rfl rfl l0 ?_
  refine x_iload 1183 hK rfl rfl l4 ?_
  refine x_iconst 1184 hK rfl rfl ?_
  refine x_iadd 1185 hK rfl rfl ?_
  refine x_scr 1186 32 hX rfl rfl rfl (by omega) (by omega) ?_
  refine x_callV 1189 hK hmono rfl rfl [.ref 0, .int (I ((xs (t + 1).toNat).toInt))] [] rfl rfl (Nat.le_of_ble_eq_true rfl) (Nat.le_of_ble_eq_true rfl) rfl (s0_ hI) (pr_lives hI hC hb (r_I _)) ?_
  rintro v1 h1 ⟨e1, re1, rfl, hG1, cl1⟩
  refine x_aload_n 1190 hK rfl rfl l2 ?_
  refine x_aload_n 1191 hK rfl rfl l0 ?_
  refine x_iload 1193 hK rfl rfl l4 ?_
  refine x_iconst 1194 hK rfl rfl ?_
  refine x_iadd 1195 hK rfl rfl ?_
  refine x_scr 1196 32 hX rfl rfl rfl (by omega) (by omega) ?_
  refine x_callV 1199 hK hmono rfl rfl [.ref 171, .int (I ((xs (t + 1).toNat).toInt))] [.int (I (e1))] rfl rfl (Nat.le_of_ble_eq_true rfl) (Nat.le_of_ble_eq_true rfl) rfl (s171g_ hG1) cl1 ?_
  rintro v2 h2 ⟨e2, re2, rfl, ee2, hI2, hC2⟩
  rw [ee2 rfl]
  refine x_if_icmp_eq 1694 1202 hK rfl rfl rfl re1 re1 (fun _ => ?_) (fun c9 => absurd rfl c9)
  exact hE _ _ _ _ l0 l1 l2 l3 l4 lo (hI2.mono (by omega)) trivial (by omega) (by omega)
set_option maxRecDepth 8000 in
theorem lc33 (hK : CLO (CLd SPt 310) ac9L_law (some .boolean) lwQ K) (hX : ∀ (pc : Nat) (ls : List (Nat × Value)) (st : List Value) (h : aH) (bc bs : Nat), lwXR Lx xs K pc ls st h bc bs → K pc ls st h bc bs) {t b : Int} {h : aH} {ls : List (Nat × Value)} {bc bs : Nat} (ht : 0 ≤ t ∧ t + 5 ≤ (Lx : Int)) (hL : Lx ≤ 5) (hI : INV sh b h) (hC : CR h) (hb : b ≤ 320000) (l0 : lk ls 0 = some (.ref 1000006)) (l1 : lk ls 1 = some (.ref 0)) (l2 : lk ls 2 = some (.ref 171)) (l3 : lk ls 3 = some (.ref 201)) (l4 : lk ls 4 = some (.int (I t))) (lo : lok ls = true) (hbc : 1 ≤ bc) (hbs : 6 ≤ bs)
    (hE : ∀ (ls' : List (Nat × Value)) (h' : aH) (bc' bs' : Nat), lk ls' 0 = some (.ref 1000006) → lk ls' 1 = some (.ref 0) → lk ls' 2 = some (.ref 171) → lk ls' 3 = some (.ref 201) → lk ls' 4 = some (.int (I t)) → lok ls' = true → INV sh (b + 600) h' → CRO h' → bc ≤ bc' + 1 → bs ≤ bs' + 6 → K 1694 ls' [] h' bc' bs') : K 1204 ls [] h bc bs := by
  have hK := sub_K hK 33 (S := aS33) rfl
  have hmono := MONO_CLd SPt_mono 310
  refine x_aload_n 1205 hK rfl rfl l1 ?_
  refine x_aload_n 1206 hK rfl rfl l0 ?_
  refine x_iload 1208 hK rfl rfl l4 ?_
  refine x_iconst 1209 hK rfl rfl ?_
  refine x_iadd 1210 hK rfl rfl ?_
  refine x_scr 1211 33 hX rfl rfl rfl (by omega) (by omega) ?_
  refine x_callV 1214 hK hmono rfl rfl [.ref 0, .int (I ((xs (t + 1).toNat).toInt))] [] rfl rfl (Nat.le_of_ble_eq_true rfl) (Nat.le_of_ble_eq_true rfl) rfl (s0_ hI) (pr_shares hI hC hb (r_I _)) ?_
  rintro v1 h1 ⟨e1, re1, rfl, hG1, cl1⟩
  refine x_aload_n 1215 hK rfl rfl l2 ?_
  refine x_aload_n 1216 hK rfl rfl l0 ?_
  refine x_iload 1218 hK rfl rfl l4 ?_
  refine x_iconst 1219 hK rfl rfl ?_
  refine x_iadd 1220 hK rfl rfl ?_
  refine x_scr 1221 33 hX rfl rfl rfl (by omega) (by omega) ?_
  refine x_callV 1224 hK hmono rfl rfl [.ref 171, .int (I ((xs (t + 1).toNat).toInt))] [.int (I (e1))] rfl rfl (Nat.le_of_ble_eq_true rfl) (Nat.le_of_ble_eq_true rfl) rfl (s171g_ hG1) cl1 ?_
  rintro v2 h2 ⟨e2, re2, rfl, ee2, hI2, hC2⟩
  rw [ee2 rfl]
  refine x_if_icmp_eq 1694 1227 hK rfl rfl rfl re1 re1 (fun _ => ?_) (fun c9 => absurd rfl c9)
  exact hE _ _ _ _ l0 l1 l2 l3 l4 lo (hI2.mono (by omega)) trivial (by omega) (by omega)
set_option maxRecDepth 8000 in
theorem lc34 (hK : CLO (CLd SPt 310) ac9L_law (some .boolean) lwQ K) (hX : ∀ (pc : Nat) (ls : List (Nat × Value)) (st : List Value) (h : aH) (bc bs : Nat), lwXR Lx xs K pc ls st h bc bs → K pc ls st h bc bs) {t b : Int} {h : aH} {ls : List (Nat × Value)} {bc bs : Nat} (ht : 0 ≤ t ∧ t + 5 ≤ (Lx : Int)) (hL : Lx ≤ 5) (hI : INV sh b h) (hC : CR h) (hb : b ≤ 320000) (l0 : lk ls 0 = some (.ref 1000006)) (l1 : lk ls 1 = some (.ref 0)) (l2 : lk ls 2 = some (.ref 171)) (l3 : lk ls 3 = some (.ref 201)) (l4 : lk ls 4 = some (.int (I t))) (lo : lok ls = true) (hbc : 1 ≤ bc) (hbs : 6 ≤ bs)
    (hE : ∀ (ls' : List (Nat × Value)) (h' : aH) (bc' bs' : Nat), lk ls' 0 = some (.ref 1000006) → lk ls' 1 = some (.ref 0) → lk ls' 2 = some (.ref 171) → lk ls' 3 = some (.ref 201) → lk ls' 4 = some (.int (I t)) → lok ls' = true → INV sh (b + 600) h' → CRO h' → bc ≤ bc' + 1 → bs ≤ bs' + 6 → K 1694 ls' [] h' bc' bs') : K 1229 ls [] h bc bs := by
  have hK := sub_K hK 34 (S := aS34) rfl
  have hmono := MONO_CLd SPt_mono 310
  refine x_aload_n 1230 hK rfl rfl l1 ?_
  refine x_aload_n 1231 hK rfl rfl l0 ?_
  refine x_iload 1233 hK rfl rfl l4 ?_
  refine x_iconst 1234 hK rfl rfl ?_
  refine x_iadd 1235 hK rfl rfl ?_
  refine x_scr 1236 34 hX rfl rfl rfl (by omega) (by omega) ?_
  refine x_callV 1239 hK hmono rfl rfl [.ref 0, .int (I ((xs (t + 1).toNat).toInt))] [] rfl rfl (Nat.le_of_ble_eq_true rfl) (Nat.le_of_ble_eq_true rfl) rfl (s0_ hI) (pr_fast hI hC hb (r_I _)) ?_
  rintro v1 h1 ⟨e1, re1, rfl, hG1, cl1⟩
  refine x_aload_n 1240 hK rfl rfl l2 ?_
  refine x_aload_n 1241 hK rfl rfl l0 ?_
  refine x_iload 1243 hK rfl rfl l4 ?_
  refine x_iconst 1244 hK rfl rfl ?_
  refine x_iadd 1245 hK rfl rfl ?_
  refine x_scr 1246 34 hX rfl rfl rfl (by omega) (by omega) ?_
  refine x_callV 1249 hK hmono rfl rfl [.ref 171, .int (I ((xs (t + 1).toNat).toInt))] [.int (I (e1))] rfl rfl (Nat.le_of_ble_eq_true rfl) (Nat.le_of_ble_eq_true rfl) rfl (s171g_ hG1) cl1 ?_
  rintro v2 h2 ⟨e2, re2, rfl, ee2, hI2, hC2⟩
  rw [ee2 rfl]
  refine x_if_icmp_eq 1694 1252 hK rfl rfl rfl re1 re1 (fun _ => ?_) (fun c9 => absurd rfl c9)
  exact hE _ _ _ _ l0 l1 l2 l3 l4 lo (hI2.mono (by omega)) trivial (by omega) (by omega)
set_option maxRecDepth 8000 in
theorem lc35 (hK : CLO (CLd SPt 310) ac9L_law (some .boolean) lwQ K) (hX : ∀ (pc : Nat) (ls : List (Nat × Value)) (st : List Value) (h : aH) (bc bs : Nat), lwXR Lx xs K pc ls st h bc bs → K pc ls st h bc bs) {t b : Int} {h : aH} {ls : List (Nat × Value)} {bc bs : Nat} (ht : 0 ≤ t ∧ t + 5 ≤ (Lx : Int)) (hL : Lx ≤ 5) (hI : INV sh b h) (hC : CR h) (hb : b ≤ 320000) (l0 : lk ls 0 = some (.ref 1000006)) (l1 : lk ls 1 = some (.ref 0)) (l2 : lk ls 2 = some (.ref 171)) (l3 : lk ls 3 = some (.ref 201)) (l4 : lk ls 4 = some (.int (I t))) (lo : lok ls = true) (hbc : 1 ≤ bc) (hbs : 6 ≤ bs)
    (hE : ∀ (ls' : List (Nat × Value)) (h' : aH) (bc' bs' : Nat), lk ls' 0 = some (.ref 1000006) → lk ls' 1 = some (.ref 0) → lk ls' 2 = some (.ref 171) → lk ls' 3 = some (.ref 201) → lk ls' 4 = some (.int (I t)) → lok ls' = true → INV sh (b + 600) h' → CRO h' → bc ≤ bc' + 1 → bs ≤ bs' + 6 → K 1694 ls' [] h' bc' bs') : K 1254 ls [] h bc bs := by
  have hK := sub_K hK 35 (S := aS35) rfl
  have hmono := MONO_CLd SPt_mono 310
  refine x_aload_n 1255 hK rfl rfl l1 ?_
  refine x_aload_n 1256 hK rfl rfl l0 ?_
  refine x_iload 1258 hK rfl rfl l4 ?_
  refine x_iconst 1259 hK rfl rfl ?_
  refine x_iadd 1260 hK rfl rfl ?_
  refine x_scr 1261 35 hX rfl rfl rfl (by omega) (by omega) ?_
  refine x_aload_n 1262 hK rfl rfl l0 ?_
  refine x_iload 1264 hK rfl rfl l4 ?_
  refine x_iconst 1265 hK rfl rfl ?_
  refine x_iadd 1266 hK rfl rfl ?_
  refine x_scr 1267 35 hX rfl rfl rfl (by omega) (by omega) ?_
  refine x_callV 1270 hK hmono rfl rfl [.ref 0, .int (I ((xs (t + 1).toNat).toInt)), .int (I ((xs (t + 2).toNat).toInt))] [] rfl rfl (Nat.le_of_ble_eq_true rfl) (Nat.le_of_ble_eq_true rfl) rfl (s0_ hI) (pr_seen hI hC hb (r_I _) (r_I _)) ?_
  rintro v1 h1 ⟨e1, re1, rfl, hG1, cl1⟩
  refine x_aload_n 1271 hK rfl rfl l2 ?_
  refine x_aload_n 1272 hK rfl rfl l0 ?_
  refine x_iload 1274 hK rfl rfl l4 ?_
  refine x_iconst 1275 hK rfl rfl ?_
  refine x_iadd 1276 hK rfl rfl ?_
  refine x_scr 1277 35 hX rfl rfl rfl (by omega) (by omega) ?_
  refine x_aload_n 1278 hK rfl rfl l0 ?_
  refine x_iload 1280 hK rfl rfl l4 ?_
  refine x_iconst 1281 hK rfl rfl ?_
  refine x_iadd 1282 hK rfl rfl ?_
  refine x_scr 1283 35 hX rfl rfl rfl (by omega) (by omega) ?_
  refine x_callV 1286 hK hmono rfl rfl [.ref 171, .int (I ((xs (t + 1).toNat).toInt)), .int (I ((xs (t + 2).toNat).toInt))] [.int (I (e1))] rfl rfl (Nat.le_of_ble_eq_true rfl) (Nat.le_of_ble_eq_true rfl) rfl (s171g_ hG1) cl1 ?_
  rintro v2 h2 ⟨e2, re2, rfl, ee2, hI2, hC2⟩
  rw [ee2 rfl]
  refine x_if_icmp_eq 1694 1289 hK rfl rfl rfl re1 re1 (fun _ => ?_) (fun c9 => absurd rfl c9)
  exact hE _ _ _ _ l0 l1 l2 l3 l4 lo (hI2.mono (by omega)) trivial (by omega) (by omega)
set_option maxRecDepth 8000 in
theorem lc36 (hK : CLO (CLd SPt 310) ac9L_law (some .boolean) lwQ K) (hX : ∀ (pc : Nat) (ls : List (Nat × Value)) (st : List Value) (h : aH) (bc bs : Nat), lwXR Lx xs K pc ls st h bc bs → K pc ls st h bc bs) {t b : Int} {h : aH} {ls : List (Nat × Value)} {bc bs : Nat} (ht : 0 ≤ t ∧ t + 5 ≤ (Lx : Int)) (hL : Lx ≤ 5) (hI : INV sh b h) (hC : CR h) (hb : b ≤ 320000) (l0 : lk ls 0 = some (.ref 1000006)) (l1 : lk ls 1 = some (.ref 0)) (l2 : lk ls 2 = some (.ref 171)) (l3 : lk ls 3 = some (.ref 201)) (l4 : lk ls 4 = some (.int (I t))) (lo : lok ls = true) (hbc : 1 ≤ bc) (hbs : 6 ≤ bs)
    (hE : ∀ (ls' : List (Nat × Value)) (h' : aH) (bc' bs' : Nat), lk ls' 0 = some (.ref 1000006) → lk ls' 1 = some (.ref 0) → lk ls' 2 = some (.ref 171) → lk ls' 3 = some (.ref 201) → lk ls' 4 = some (.int (I t)) → lok ls' = true → INV sh (b + 600) h' → CRO h' → bc ≤ bc' + 1 → bs ≤ bs' + 6 → K 1694 ls' [] h' bc' bs') : K 1291 ls [] h bc bs := by
  have hK := sub_K hK 36 (S := aS36) rfl
  have hmono := MONO_CLd SPt_mono 310
  refine x_aload_n 1292 hK rfl rfl l1 ?_
  refine x_callV 1295 hK hmono rfl rfl [.ref 0] [] rfl rfl (Nat.le_of_ble_eq_true rfl) (Nat.le_of_ble_eq_true rfl) rfl (s0_ hI) (pr_forget hI hC hb ) ?_
  rintro v1 h1 ⟨e1, re1, rfl, hG1, cl1⟩
  refine x_aload_n 1296 hK rfl rfl l2 ?_
  refine x_callV 1299 hK hmono rfl rfl [.ref 171] [.int (I (e1))] rfl rfl (Nat.le_of_ble_eq_true rfl) (Nat.le_of_ble_eq_true rfl) rfl (s171g_ hG1) cl1 ?_
  rintro v2 h2 ⟨e2, re2, rfl, ee2, hI2, hC2⟩
  rw [ee2 rfl]
  refine x_if_icmp_eq 1694 1302 hK rfl rfl rfl re1 re1 (fun _ => ?_) (fun c9 => absurd rfl c9)
  exact hE _ _ _ _ l0 l1 l2 l3 l4 lo (hI2.mono (by omega)) trivial (by omega) (by omega)
set_option maxRecDepth 8000 in
theorem lc37 (hK : CLO (CLd SPt 310) ac9L_law (some .boolean) lwQ K) (hX : ∀ (pc : Nat) (ls : List (Nat × Value)) (st : List Value) (h : aH) (bc bs : Nat), lwXR Lx xs K pc ls st h bc bs → K pc ls st h bc bs) {t b : Int} {h : aH} {ls : List (Nat × Value)} {bc bs : Nat} (ht : 0 ≤ t ∧ t + 5 ≤ (Lx : Int)) (hL : Lx ≤ 5) (hI : INV sh b h) (hC : CR h) (hb : b ≤ 320000) (l0 : lk ls 0 = some (.ref 1000006)) (l1 : lk ls 1 = some (.ref 0)) (l2 : lk ls 2 = some (.ref 171)) (l3 : lk ls 3 = some (.ref 201)) (l4 : lk ls 4 = some (.int (I t))) (lo : lok ls = true) (hbc : 1 ≤ bc) (hbs : 6 ≤ bs)
    (hE : ∀ (ls' : List (Nat × Value)) (h' : aH) (bc' bs' : Nat), lk ls' 0 = some (.ref 1000006) → lk ls' 1 = some (.ref 0) → lk ls' 2 = some (.ref 171) → lk ls' 3 = some (.ref 201) → lk ls' 4 = some (.int (I t)) → lok ls' = true → INV sh (b + 600) h' → CRO h' → bc ≤ bc' + 1 → bs ≤ bs' + 6 → K 1694 ls' [] h' bc' bs') : K 1304 ls [] h bc bs := by
  have hK := sub_K hK 37 (S := aS37) rfl
  have hmono := MONO_CLd SPt_mono 310
  refine x_aload_n 1305 hK rfl rfl l1 ?_
  refine x_callV 1308 hK hmono rfl rfl [.ref 0] [] rfl rfl (Nat.le_of_ble_eq_true rfl) (Nat.le_of_ble_eq_true rfl) rfl (s0_ hI) (pr_ordered hI hC hb ) ?_
  rintro v1 h1 ⟨e1, re1, rfl, hG1, cl1⟩
  refine x_aload_n 1309 hK rfl rfl l2 ?_
  refine x_callV 1312 hK hmono rfl rfl [.ref 171] [.int (I (e1))] rfl rfl (Nat.le_of_ble_eq_true rfl) (Nat.le_of_ble_eq_true rfl) rfl (s171g_ hG1) cl1 ?_
  rintro v2 h2 ⟨e2, re2, rfl, ee2, hI2, hC2⟩
  rw [ee2 rfl]
  refine x_if_icmp_eq 1694 1315 hK rfl rfl rfl re1 re1 (fun _ => ?_) (fun c9 => absurd rfl c9)
  exact hE _ _ _ _ l0 l1 l2 l3 l4 lo (hI2.mono (by omega)) trivial (by omega) (by omega)
set_option maxRecDepth 8000 in
theorem lc38 (hK : CLO (CLd SPt 310) ac9L_law (some .boolean) lwQ K) (hX : ∀ (pc : Nat) (ls : List (Nat × Value)) (st : List Value) (h : aH) (bc bs : Nat), lwXR Lx xs K pc ls st h bc bs → K pc ls st h bc bs) {t b : Int} {h : aH} {ls : List (Nat × Value)} {bc bs : Nat} (ht : 0 ≤ t ∧ t + 5 ≤ (Lx : Int)) (hL : Lx ≤ 5) (hI : INV sh b h) (hC : CR h) (hb : b ≤ 320000) (l0 : lk ls 0 = some (.ref 1000006)) (l1 : lk ls 1 = some (.ref 0)) (l2 : lk ls 2 = some (.ref 171)) (l3 : lk ls 3 = some (.ref 201)) (l4 : lk ls 4 = some (.int (I t))) (lo : lok ls = true) (hbc : 1 ≤ bc) (hbs : 6 ≤ bs)
    (hE : ∀ (ls' : List (Nat × Value)) (h' : aH) (bc' bs' : Nat), lk ls' 0 = some (.ref 1000006) → lk ls' 1 = some (.ref 0) → lk ls' 2 = some (.ref 171) → lk ls' 3 = some (.ref 201) → lk ls' 4 = some (.int (I t)) → lok ls' = true → INV sh (b + 600) h' → CRO h' → bc ≤ bc' + 1 → bs ≤ bs' + 6 → K 1694 ls' [] h' bc' bs') : K 1317 ls [] h bc bs := by
  have hK := sub_K hK 38 (S := aS38) rfl
  have hmono := MONO_CLd SPt_mono 310
  refine x_aload_n 1318 hK rfl rfl l1 ?_
  refine x_callV 1321 hK hmono rfl rfl [.ref 0] [] rfl rfl (Nat.le_of_ble_eq_true rfl) (Nat.le_of_ble_eq_true rfl) rfl (s0_ hI) (pr_unsure hI hC hb ) ?_
  rintro v1 h1 ⟨e1, re1, rfl, hG1, cl1⟩
  refine x_aload_n 1322 hK rfl rfl l2 ?_
  refine x_callV 1325 hK hmono rfl rfl [.ref 171] [.int (I (e1))] rfl rfl (Nat.le_of_ble_eq_true rfl) (Nat.le_of_ble_eq_true rfl) rfl (s171g_ hG1) cl1 ?_
  rintro v2 h2 ⟨e2, re2, rfl, ee2, hI2, hC2⟩
  rw [ee2 rfl]
  refine x_if_icmp_eq 1694 1328 hK rfl rfl rfl re1 re1 (fun _ => ?_) (fun c9 => absurd rfl c9)
  exact hE _ _ _ _ l0 l1 l2 l3 l4 lo (hI2.mono (by omega)) trivial (by omega) (by omega)
set_option maxRecDepth 8000 in
theorem lc39 (hK : CLO (CLd SPt 310) ac9L_law (some .boolean) lwQ K) (hX : ∀ (pc : Nat) (ls : List (Nat × Value)) (st : List Value) (h : aH) (bc bs : Nat), lwXR Lx xs K pc ls st h bc bs → K pc ls st h bc bs) {t b : Int} {h : aH} {ls : List (Nat × Value)} {bc bs : Nat} (ht : 0 ≤ t ∧ t + 5 ≤ (Lx : Int)) (hL : Lx ≤ 5) (hI : INV sh b h) (hC : CR h) (hb : b ≤ 320000) (l0 : lk ls 0 = some (.ref 1000006)) (l1 : lk ls 1 = some (.ref 0)) (l2 : lk ls 2 = some (.ref 171)) (l3 : lk ls 3 = some (.ref 201)) (l4 : lk ls 4 = some (.int (I t))) (lo : lok ls = true) (hbc : 1 ≤ bc) (hbs : 6 ≤ bs)
    (hE : ∀ (ls' : List (Nat × Value)) (h' : aH) (bc' bs' : Nat), lk ls' 0 = some (.ref 1000006) → lk ls' 1 = some (.ref 0) → lk ls' 2 = some (.ref 171) → lk ls' 3 = some (.ref 201) → lk ls' 4 = some (.int (I t)) → lok ls' = true → INV sh (b + 600) h' → CRO h' → bc ≤ bc' + 1 → bs ≤ bs' + 6 → K 1694 ls' [] h' bc' bs') : K 1330 ls [] h bc bs := by
  have hK := sub_K hK 39 (S := aS39) rfl
  have hmono := MONO_CLd SPt_mono 310
  refine x_aload_n 1331 hK rfl rfl l1 ?_
  refine x_aload_n 1332 hK rfl rfl l0 ?_
  refine x_iload 1334 hK rfl rfl l4 ?_
  refine x_iconst 1335 hK rfl rfl ?_
  refine x_iadd 1336 hK rfl rfl ?_
  refine x_scr 1337 39 hX rfl rfl rfl (by omega) (by omega) ?_
  refine x_aload_n 1338 hK rfl rfl l0 ?_
  refine x_iload 1340 hK rfl rfl l4 ?_
  refine x_iconst 1341 hK rfl rfl ?_
  refine x_iadd 1342 hK rfl rfl ?_
  refine x_scr 1343 39 hX rfl rfl rfl (by omega) (by omega) ?_
  refine x_callV 1346 hK hmono rfl rfl [.ref 0, .int (I ((xs (t + 1).toNat).toInt)), .int (I ((xs (t + 2).toNat).toInt))] [] rfl rfl (Nat.le_of_ble_eq_true rfl) (Nat.le_of_ble_eq_true rfl) rfl (s0_ hI) (pr_boy hI hC hb (r_I _) (r_I _)) ?_
  rintro v1 h1 ⟨e1, re1, rfl, hG1, cl1⟩
  refine x_aload_n 1347 hK rfl rfl l2 ?_
  refine x_aload_n 1348 hK rfl rfl l0 ?_
  refine x_iload 1350 hK rfl rfl l4 ?_
  refine x_iconst 1351 hK rfl rfl ?_
  refine x_iadd 1352 hK rfl rfl ?_
  refine x_scr 1353 39 hX rfl rfl rfl (by omega) (by omega) ?_
  refine x_aload_n 1354 hK rfl rfl l0 ?_
  refine x_iload 1356 hK rfl rfl l4 ?_
  refine x_iconst 1357 hK rfl rfl ?_
  refine x_iadd 1358 hK rfl rfl ?_
  refine x_scr 1359 39 hX rfl rfl rfl (by omega) (by omega) ?_
  refine x_callV 1362 hK hmono rfl rfl [.ref 171, .int (I ((xs (t + 1).toNat).toInt)), .int (I ((xs (t + 2).toNat).toInt))] [.int (I (e1))] rfl rfl (Nat.le_of_ble_eq_true rfl) (Nat.le_of_ble_eq_true rfl) rfl (s171g_ hG1) cl1 ?_
  rintro v2 h2 ⟨e2, re2, rfl, ee2, hI2, hC2⟩
  rw [ee2 rfl]
  refine x_if_icmp_eq 1694 1365 hK rfl rfl rfl re1 re1 (fun _ => ?_) (fun c9 => absurd rfl c9)
  exact hE _ _ _ _ l0 l1 l2 l3 l4 lo (hI2.mono (by omega)) trivial (by omega) (by omega)
set_option maxRecDepth 8000 in
theorem lc40 (hK : CLO (CLd SPt 310) ac9L_law (some .boolean) lwQ K) (hX : ∀ (pc : Nat) (ls : List (Nat × Value)) (st : List Value) (h : aH) (bc bs : Nat), lwXR Lx xs K pc ls st h bc bs → K pc ls st h bc bs) {t b : Int} {h : aH} {ls : List (Nat × Value)} {bc bs : Nat} (ht : 0 ≤ t ∧ t + 5 ≤ (Lx : Int)) (hL : Lx ≤ 5) (hI : INV sh b h) (hC : CR h) (hb : b ≤ 320000) (l0 : lk ls 0 = some (.ref 1000006)) (l1 : lk ls 1 = some (.ref 0)) (l2 : lk ls 2 = some (.ref 171)) (l3 : lk ls 3 = some (.ref 201)) (l4 : lk ls 4 = some (.int (I t))) (lo : lok ls = true) (hbc : 1 ≤ bc) (hbs : 6 ≤ bs)
    (hE : ∀ (ls' : List (Nat × Value)) (h' : aH) (bc' bs' : Nat), lk ls' 0 = some (.ref 1000006) → lk ls' 1 = some (.ref 0) → lk ls' 2 = some (.ref 171) → lk ls' 3 = some (.ref 201) → lk ls' 4 = some (.int (I t)) → lok ls' = true → INV sh (b + 600) h' → CRO h' → bc ≤ bc' + 1 → bs ≤ bs' + 6 → K 1694 ls' [] h' bc' bs') : K 1367 ls [] h bc bs := by
  have hK := sub_K hK 40 (S := aS40) rfl
  have hmono := MONO_CLd SPt_mono 310
  refine x_aload_n 1368 hK rfl rfl l1 ?_
  refine x_aload_n 1369 hK rfl rfl l0 ?_
  refine x_iload 1371 hK rfl rfl l4 ?_
  refine x_iconst 1372 hK rfl rfl ?_
  refine x_iadd 1373 hK rfl rfl ?_
  refine x_scr 1374 40 hX rfl rfl rfl (by omega) (by omega) ?_
  refine x_callV 1377 hK hmono rfl rfl [.ref 0, .int (I ((xs (t + 1).toNat).toInt))] [] rfl rfl (Nat.le_of_ble_eq_true rfl) (Nat.le_of_ble_eq_true rfl) rfl (s0_ hI) (pr_meets hI hC hb (r_I _)) ?_
  rintro v1 h1 ⟨e1, re1, rfl, hG1, cl1⟩
  refine x_aload_n 1378 hK rfl rfl l2 ?_
  refine x_aload_n 1379 hK rfl rfl l0 ?_
  refine x_iload 1381 hK rfl rfl l4 ?_
  refine x_iconst 1382 hK rfl rfl ?_
  refine x_iadd 1383 hK rfl rfl ?_
  refine x_scr 1384 40 hX rfl rfl rfl (by omega) (by omega) ?_
  refine x_callV 1387 hK hmono rfl rfl [.ref 171, .int (I ((xs (t + 1).toNat).toInt))] [.int (I (e1))] rfl rfl (Nat.le_of_ble_eq_true rfl) (Nat.le_of_ble_eq_true rfl) rfl (s171g_ hG1) cl1 ?_
  rintro v2 h2 ⟨e2, re2, rfl, ee2, hI2, hC2⟩
  rw [ee2 rfl]
  refine x_if_icmp_eq 1694 1390 hK rfl rfl rfl re1 re1 (fun _ => ?_) (fun c9 => absurd rfl c9)
  exact hE _ _ _ _ l0 l1 l2 l3 l4 lo (hI2.mono (by omega)) trivial (by omega) (by omega)
set_option maxRecDepth 8000 in
theorem lc41 (hK : CLO (CLd SPt 310) ac9L_law (some .boolean) lwQ K) (hX : ∀ (pc : Nat) (ls : List (Nat × Value)) (st : List Value) (h : aH) (bc bs : Nat), lwXR Lx xs K pc ls st h bc bs → K pc ls st h bc bs) {t b : Int} {h : aH} {ls : List (Nat × Value)} {bc bs : Nat} (ht : 0 ≤ t ∧ t + 5 ≤ (Lx : Int)) (hL : Lx ≤ 5) (hI : INV sh b h) (hC : CR h) (hb : b ≤ 320000) (l0 : lk ls 0 = some (.ref 1000006)) (l1 : lk ls 1 = some (.ref 0)) (l2 : lk ls 2 = some (.ref 171)) (l3 : lk ls 3 = some (.ref 201)) (l4 : lk ls 4 = some (.int (I t))) (lo : lok ls = true) (hbc : 1 ≤ bc) (hbs : 6 ≤ bs)
    (hE : ∀ (ls' : List (Nat × Value)) (h' : aH) (bc' bs' : Nat), lk ls' 0 = some (.ref 1000006) → lk ls' 1 = some (.ref 0) → lk ls' 2 = some (.ref 171) → lk ls' 3 = some (.ref 201) → lk ls' 4 = some (.int (I t)) → lok ls' = true → INV sh (b + 600) h' → CRO h' → bc ≤ bc' + 1 → bs ≤ bs' + 6 → K 1694 ls' [] h' bc' bs') : K 1392 ls [] h bc bs := by
  have hK := sub_K hK 41 (S := aS41) rfl
  have hmono := MONO_CLd SPt_mono 310
  refine x_aload_n 1393 hK rfl rfl l1 ?_
  refine x_aload_n 1394 hK rfl rfl l0 ?_
  refine x_iload 1396 hK rfl rfl l4 ?_
  refine x_iconst 1397 hK rfl rfl ?_
  refine x_iadd 1398 hK rfl rfl ?_
  refine x_scr 1399 41 hX rfl rfl rfl (by omega) (by omega) ?_
  refine x_aload_n 1400 hK rfl rfl l0 ?_
  refine x_iload 1402 hK rfl rfl l4 ?_
  refine x_iconst 1403 hK rfl rfl ?_
  refine x_iadd 1404 hK rfl rfl ?_
  refine x_scr 1405 41 hX rfl rfl rfl (by omega) (by omega) ?_
  refine x_callV 1408 hK hmono rfl rfl [.ref 0, .int (I ((xs (t + 1).toNat).toInt)), .int (I ((xs (t + 2).toNat).toInt))] [] rfl rfl (Nat.le_of_ble_eq_true rfl) (Nat.le_of_ble_eq_true rfl) rfl (s0_ hI) (pr_knows hI hC hb (r_I _) (r_I _)) ?_
  rintro v1 h1 ⟨e1, re1, rfl, hG1, cl1⟩
  refine x_aload_n 1409 hK rfl rfl l2 ?_
  refine x_aload_n 1410 hK rfl rfl l0 ?_
  refine x_iload 1412 hK rfl rfl l4 ?_
  refine x_iconst 1413 hK rfl rfl ?_
  refine x_iadd 1414 hK rfl rfl ?_
  refine x_scr 1415 41 hX rfl rfl rfl (by omega) (by omega) ?_
  refine x_aload_n 1416 hK rfl rfl l0 ?_
  refine x_iload 1418 hK rfl rfl l4 ?_
  refine x_iconst 1419 hK rfl rfl ?_
  refine x_iadd 1420 hK rfl rfl ?_
  refine x_scr 1421 41 hX rfl rfl rfl (by omega) (by omega) ?_
  refine x_callV 1424 hK hmono rfl rfl [.ref 171, .int (I ((xs (t + 1).toNat).toInt)), .int (I ((xs (t + 2).toNat).toInt))] [.int (I (e1))] rfl rfl (Nat.le_of_ble_eq_true rfl) (Nat.le_of_ble_eq_true rfl) rfl (s171g_ hG1) cl1 ?_
  rintro v2 h2 ⟨e2, re2, rfl, ee2, hI2, hC2⟩
  rw [ee2 rfl]
  refine x_if_icmp_eq 1694 1427 hK rfl rfl rfl re1 re1 (fun _ => ?_) (fun c9 => absurd rfl c9)
  exact hE _ _ _ _ l0 l1 l2 l3 l4 lo (hI2.mono (by omega)) trivial (by omega) (by omega)
set_option maxRecDepth 8000 in
theorem lc42 (hK : CLO (CLd SPt 310) ac9L_law (some .boolean) lwQ K) (hX : ∀ (pc : Nat) (ls : List (Nat × Value)) (st : List Value) (h : aH) (bc bs : Nat), lwXR Lx xs K pc ls st h bc bs → K pc ls st h bc bs) {t b : Int} {h : aH} {ls : List (Nat × Value)} {bc bs : Nat} (ht : 0 ≤ t ∧ t + 5 ≤ (Lx : Int)) (hL : Lx ≤ 5) (hI : INV sh b h) (hC : CR h) (hb : b ≤ 320000) (l0 : lk ls 0 = some (.ref 1000006)) (l1 : lk ls 1 = some (.ref 0)) (l2 : lk ls 2 = some (.ref 171)) (l3 : lk ls 3 = some (.ref 201)) (l4 : lk ls 4 = some (.int (I t))) (lo : lok ls = true) (hbc : 1 ≤ bc) (hbs : 6 ≤ bs)
    (hE : ∀ (ls' : List (Nat × Value)) (h' : aH) (bc' bs' : Nat), lk ls' 0 = some (.ref 1000006) → lk ls' 1 = some (.ref 0) → lk ls' 2 = some (.ref 171) → lk ls' 3 = some (.ref 201) → lk ls' 4 = some (.int (I t)) → lok ls' = true → INV sh (b + 600) h' → CRO h' → bc ≤ bc' + 1 → bs ≤ bs' + 6 → K 1694 ls' [] h' bc' bs') : K 1429 ls [] h bc bs := by
  have hK := sub_K hK 42 (S := aS42) rfl
  have hmono := MONO_CLd SPt_mono 310
  refine x_aload_n 1430 hK rfl rfl l1 ?_
  refine x_aload_n 1431 hK rfl rfl l0 ?_
  refine x_iload 1433 hK rfl rfl l4 ?_
  refine x_iconst 1434 hK rfl rfl ?_
  refine x_iadd 1435 hK rfl rfl ?_
  refine x_scr 1436 42 hX rfl rfl rfl (by omega) (by omega) ?_
  refine x_aload_n 1437 hK rfl rfl l0 ?_
  refine x_iload 1439 hK rfl rfl l4 ?_
  refine x_iconst 1440 hK rfl rfl ?_
  refine x_iadd 1441 hK rfl rfl ?_
  refine x_scr 1442 42 hX rfl rfl rfl (by omega) (by omega) ?_
  refine x_aload_n 1443 hK rfl rfl l0 ?_
  refine x_iload 1445 hK rfl rfl l4 ?_
  refine x_iconst 1446 hK rfl rfl ?_
  refine x_iadd 1447 hK rfl rfl ?_
  refine x_scr 1448 42 hX rfl rfl rfl (by omega) (by omega) ?_
  refine x_callV 1451 hK hmono rfl rfl [.ref 0, .int (I ((xs (t + 1).toNat).toInt)), .int (I ((xs (t + 2).toNat).toInt)), .int (I ((xs (t + 3).toNat).toInt))] [] rfl rfl (Nat.le_of_ble_eq_true rfl) (Nat.le_of_ble_eq_true rfl) rfl (s0_ hI) (pr_mutiny hI hC hb (r_I _) (r_I _) (r_I _)) ?_
  rintro v1 h1 ⟨e1, re1, rfl, hG1, cl1⟩
  refine x_aload_n 1452 hK rfl rfl l2 ?_
  refine x_aload_n 1453 hK rfl rfl l0 ?_
  refine x_iload 1455 hK rfl rfl l4 ?_
  refine x_iconst 1456 hK rfl rfl ?_
  refine x_iadd 1457 hK rfl rfl ?_
  refine x_scr 1458 42 hX rfl rfl rfl (by omega) (by omega) ?_
  refine x_aload_n 1459 hK rfl rfl l0 ?_
  refine x_iload 1461 hK rfl rfl l4 ?_
  refine x_iconst 1462 hK rfl rfl ?_
  refine x_iadd 1463 hK rfl rfl ?_
  refine x_scr 1464 42 hX rfl rfl rfl (by omega) (by omega) ?_
  refine x_aload_n 1465 hK rfl rfl l0 ?_
  refine x_iload 1467 hK rfl rfl l4 ?_
  refine x_iconst 1468 hK rfl rfl ?_
  refine x_iadd 1469 hK rfl rfl ?_
  refine x_scr 1470 42 hX rfl rfl rfl (by omega) (by omega) ?_
  refine x_callV 1473 hK hmono rfl rfl [.ref 171, .int (I ((xs (t + 1).toNat).toInt)), .int (I ((xs (t + 2).toNat).toInt)), .int (I ((xs (t + 3).toNat).toInt))] [.int (I (e1))] rfl rfl (Nat.le_of_ble_eq_true rfl) (Nat.le_of_ble_eq_true rfl) rfl (s171g_ hG1) cl1 ?_
  rintro v2 h2 ⟨e2, re2, rfl, ee2, hI2, hC2⟩
  rw [ee2 rfl]
  refine x_if_icmp_eq 1694 1476 hK rfl rfl rfl re1 re1 (fun _ => ?_) (fun c9 => absurd rfl c9)
  exact hE _ _ _ _ l0 l1 l2 l3 l4 lo (hI2.mono (by omega)) trivial (by omega) (by omega)
set_option maxRecDepth 8000 in
theorem lc43 (hK : CLO (CLd SPt 310) ac9L_law (some .boolean) lwQ K) (hX : ∀ (pc : Nat) (ls : List (Nat × Value)) (st : List Value) (h : aH) (bc bs : Nat), lwXR Lx xs K pc ls st h bc bs → K pc ls st h bc bs) {t b : Int} {h : aH} {ls : List (Nat × Value)} {bc bs : Nat} (ht : 0 ≤ t ∧ t + 5 ≤ (Lx : Int)) (hL : Lx ≤ 5) (hI : INV sh b h) (hC : CR h) (hb : b ≤ 320000) (l0 : lk ls 0 = some (.ref 1000006)) (l1 : lk ls 1 = some (.ref 0)) (l2 : lk ls 2 = some (.ref 171)) (l3 : lk ls 3 = some (.ref 201)) (l4 : lk ls 4 = some (.int (I t))) (lo : lok ls = true) (hbc : 1 ≤ bc) (hbs : 6 ≤ bs)
    (hE : ∀ (ls' : List (Nat × Value)) (h' : aH) (bc' bs' : Nat), lk ls' 0 = some (.ref 1000006) → lk ls' 1 = some (.ref 0) → lk ls' 2 = some (.ref 171) → lk ls' 3 = some (.ref 201) → lk ls' 4 = some (.int (I t)) → lok ls' = true → INV sh (b + 600) h' → CRO h' → bc ≤ bc' + 1 → bs ≤ bs' + 6 → K 1694 ls' [] h' bc' bs') : K 1478 ls [] h bc bs := by
  have hK := sub_K hK 43 (S := aS43) rfl
  have hmono := MONO_CLd SPt_mono 310
  refine x_aload_n 1479 hK rfl rfl l1 ?_
  refine x_aload_n 1480 hK rfl rfl l0 ?_
  refine x_iload 1482 hK rfl rfl l4 ?_
  refine x_iconst 1483 hK rfl rfl ?_
  refine x_iadd 1484 hK rfl rfl ?_
  refine x_scr 1485 43 hX rfl rfl rfl (by omega) (by omega) ?_
  refine x_aload_n 1486 hK rfl rfl l0 ?_
  refine x_iload 1488 hK rfl rfl l4 ?_
  refine x_iconst 1489 hK rfl rfl ?_
  refine x_iadd 1490 hK rfl rfl ?_
  refine x_scr 1491 43 hX rfl rfl rfl (by omega) (by omega) ?_
  refine x_aload_n 1492 hK rfl rfl l0 ?_
  refine x_iload 1494 hK rfl rfl l4 ?_
  refine x_iconst 1495 hK rfl rfl ?_
  refine x_iadd 1496 hK rfl rfl ?_
  refine x_scr 1497 43 hX rfl rfl rfl (by omega) (by omega) ?_
  refine x_callV 1500 hK hmono rfl rfl [.ref 0, .int (I ((xs (t + 1).toNat).toInt)), .int (I ((xs (t + 2).toNat).toInt)), .int (I ((xs (t + 3).toNat).toInt))] [] rfl rfl (Nat.le_of_ble_eq_true rfl) (Nat.le_of_ble_eq_true rfl) rfl (s0_ hI) (pr_chance hI hC hb (r_I _) (r_I _) (r_I _)) ?_
  rintro v1 h1 ⟨e1, re1, rfl, hG1, cl1⟩
  refine x_aload_n 1501 hK rfl rfl l2 ?_
  refine x_aload_n 1502 hK rfl rfl l0 ?_
  refine x_iload 1504 hK rfl rfl l4 ?_
  refine x_iconst 1505 hK rfl rfl ?_
  refine x_iadd 1506 hK rfl rfl ?_
  refine x_scr 1507 43 hX rfl rfl rfl (by omega) (by omega) ?_
  refine x_aload_n 1508 hK rfl rfl l0 ?_
  refine x_iload 1510 hK rfl rfl l4 ?_
  refine x_iconst 1511 hK rfl rfl ?_
  refine x_iadd 1512 hK rfl rfl ?_
  refine x_scr 1513 43 hX rfl rfl rfl (by omega) (by omega) ?_
  refine x_aload_n 1514 hK rfl rfl l0 ?_
  refine x_iload 1516 hK rfl rfl l4 ?_
  refine x_iconst 1517 hK rfl rfl ?_
  refine x_iadd 1518 hK rfl rfl ?_
  refine x_scr 1519 43 hX rfl rfl rfl (by omega) (by omega) ?_
  refine x_callV 1522 hK hmono rfl rfl [.ref 171, .int (I ((xs (t + 1).toNat).toInt)), .int (I ((xs (t + 2).toNat).toInt)), .int (I ((xs (t + 3).toNat).toInt))] [.int (I (e1))] rfl rfl (Nat.le_of_ble_eq_true rfl) (Nat.le_of_ble_eq_true rfl) rfl (s171g_ hG1) cl1 ?_
  rintro v2 h2 ⟨e2, re2, rfl, ee2, hI2, hC2⟩
  rw [ee2 rfl]
  refine x_if_icmp_eq 1694 1525 hK rfl rfl rfl re1 re1 (fun _ => ?_) (fun c9 => absurd rfl c9)
  exact hE _ _ _ _ l0 l1 l2 l3 l4 lo (hI2.mono (by omega)) trivial (by omega) (by omega)
set_option maxRecDepth 8000 in
theorem lc44 (hK : CLO (CLd SPt 310) ac9L_law (some .boolean) lwQ K) (hX : ∀ (pc : Nat) (ls : List (Nat × Value)) (st : List Value) (h : aH) (bc bs : Nat), lwXR Lx xs K pc ls st h bc bs → K pc ls st h bc bs) {t b : Int} {h : aH} {ls : List (Nat × Value)} {bc bs : Nat} (ht : 0 ≤ t ∧ t + 5 ≤ (Lx : Int)) (hL : Lx ≤ 5) (hI : INV sh b h) (hC : CR h) (hb : b ≤ 320000) (l0 : lk ls 0 = some (.ref 1000006)) (l1 : lk ls 1 = some (.ref 0)) (l2 : lk ls 2 = some (.ref 171)) (l3 : lk ls 3 = some (.ref 201)) (l4 : lk ls 4 = some (.int (I t))) (lo : lok ls = true) (hbc : 1 ≤ bc) (hbs : 6 ≤ bs)
    (hE : ∀ (ls' : List (Nat × Value)) (h' : aH) (bc' bs' : Nat), lk ls' 0 = some (.ref 1000006) → lk ls' 1 = some (.ref 0) → lk ls' 2 = some (.ref 171) → lk ls' 3 = some (.ref 201) → lk ls' 4 = some (.int (I t)) → lok ls' = true → INV sh (b + 600) h' → CRO h' → bc ≤ bc' + 1 → bs ≤ bs' + 6 → K 1694 ls' [] h' bc' bs') : K 1527 ls [] h bc bs := by
  have hK := sub_K hK 44 (S := aS44) rfl
  have hmono := MONO_CLd SPt_mono 310
  refine x_aload_n 1528 hK rfl rfl l1 ?_
  refine x_aload_n 1529 hK rfl rfl l0 ?_
  refine x_iload 1531 hK rfl rfl l4 ?_
  refine x_iconst 1532 hK rfl rfl ?_
  refine x_iadd 1533 hK rfl rfl ?_
  refine x_scr 1534 44 hX rfl rfl rfl (by omega) (by omega) ?_
  refine x_aload_n 1535 hK rfl rfl l0 ?_
  refine x_iload 1537 hK rfl rfl l4 ?_
  refine x_iconst 1538 hK rfl rfl ?_
  refine x_iadd 1539 hK rfl rfl ?_
  refine x_scr 1540 44 hX rfl rfl rfl (by omega) (by omega) ?_
  refine x_callV 1543 hK hmono rfl rfl [.ref 0, .int (I ((xs (t + 1).toNat).toInt)), .int (I ((xs (t + 2).toNat).toInt))] [] rfl rfl (Nat.le_of_ble_eq_true rfl) (Nat.le_of_ble_eq_true rfl) rfl (s0_ hI) (pr_voyages hI hC hb (r_I _) (r_I _)) ?_
  rintro v1 h1 ⟨e1, re1, rfl, hG1, cl1⟩
  refine x_aload_n 1544 hK rfl rfl l2 ?_
  refine x_aload_n 1545 hK rfl rfl l0 ?_
  refine x_iload 1547 hK rfl rfl l4 ?_
  refine x_iconst 1548 hK rfl rfl ?_
  refine x_iadd 1549 hK rfl rfl ?_
  refine x_scr 1550 44 hX rfl rfl rfl (by omega) (by omega) ?_
  refine x_aload_n 1551 hK rfl rfl l0 ?_
  refine x_iload 1553 hK rfl rfl l4 ?_
  refine x_iconst 1554 hK rfl rfl ?_
  refine x_iadd 1555 hK rfl rfl ?_
  refine x_scr 1556 44 hX rfl rfl rfl (by omega) (by omega) ?_
  refine x_callV 1559 hK hmono rfl rfl [.ref 171, .int (I ((xs (t + 1).toNat).toInt)), .int (I ((xs (t + 2).toNat).toInt))] [.int (I (e1))] rfl rfl (Nat.le_of_ble_eq_true rfl) (Nat.le_of_ble_eq_true rfl) rfl (s171g_ hG1) cl1 ?_
  rintro v2 h2 ⟨e2, re2, rfl, ee2, hI2, hC2⟩
  rw [ee2 rfl]
  refine x_if_icmp_eq 1694 1562 hK rfl rfl rfl re1 re1 (fun _ => ?_) (fun c9 => absurd rfl c9)
  exact hE _ _ _ _ l0 l1 l2 l3 l4 lo (hI2.mono (by omega)) trivial (by omega) (by omega)
set_option maxRecDepth 8000 in
theorem lc45 (hK : CLO (CLd SPt 310) ac9L_law (some .boolean) lwQ K) (hX : ∀ (pc : Nat) (ls : List (Nat × Value)) (st : List Value) (h : aH) (bc bs : Nat), lwXR Lx xs K pc ls st h bc bs → K pc ls st h bc bs) {t b : Int} {h : aH} {ls : List (Nat × Value)} {bc bs : Nat} (ht : 0 ≤ t ∧ t + 5 ≤ (Lx : Int)) (hL : Lx ≤ 5) (hI : INV sh b h) (hC : CR h) (hb : b ≤ 320000) (l0 : lk ls 0 = some (.ref 1000006)) (l1 : lk ls 1 = some (.ref 0)) (l2 : lk ls 2 = some (.ref 171)) (l3 : lk ls 3 = some (.ref 201)) (l4 : lk ls 4 = some (.int (I t))) (lo : lok ls = true) (hbc : 1 ≤ bc) (hbs : 6 ≤ bs)
    (hE : ∀ (ls' : List (Nat × Value)) (h' : aH) (bc' bs' : Nat), lk ls' 0 = some (.ref 1000006) → lk ls' 1 = some (.ref 0) → lk ls' 2 = some (.ref 171) → lk ls' 3 = some (.ref 201) → lk ls' 4 = some (.int (I t)) → lok ls' = true → INV sh (b + 600) h' → CRO h' → bc ≤ bc' + 1 → bs ≤ bs' + 6 → K 1694 ls' [] h' bc' bs') : K 1564 ls [] h bc bs := by
  have hK := sub_K hK 45 (S := aS45) rfl
  have hmono := MONO_CLd SPt_mono 310
  refine x_aload_n 1565 hK rfl rfl l1 ?_
  refine x_aload_n 1566 hK rfl rfl l0 ?_
  refine x_iload 1568 hK rfl rfl l4 ?_
  refine x_iconst 1569 hK rfl rfl ?_
  refine x_iadd 1570 hK rfl rfl ?_
  refine x_scr 1571 45 hX rfl rfl rfl (by omega) (by omega) ?_
  refine x_callV 1574 hK hmono rfl rfl [.ref 0, .int (I ((xs (t + 1).toNat).toInt))] [] rfl rfl (Nat.le_of_ble_eq_true rfl) (Nat.le_of_ble_eq_true rfl) rfl (s0_ hI) (pr_keep hI hC hb (r_I _)) ?_
  rintro v1 h1 ⟨e1, re1, rfl, hG1, cl1⟩
  refine x_aload_n 1575 hK rfl rfl l2 ?_
  refine x_aload_n 1576 hK rfl rfl l0 ?_
  refine x_iload 1578 hK rfl rfl l4 ?_
  refine x_iconst 1579 hK rfl rfl ?_
  refine x_iadd 1580 hK rfl rfl ?_
  refine x_scr 1581 45 hX rfl rfl rfl (by omega) (by omega) ?_
  refine x_callV 1584 hK hmono rfl rfl [.ref 171, .int (I ((xs (t + 1).toNat).toInt))] [.int (I (e1))] rfl rfl (Nat.le_of_ble_eq_true rfl) (Nat.le_of_ble_eq_true rfl) rfl (s171g_ hG1) cl1 ?_
  rintro v2 h2 ⟨e2, re2, rfl, ee2, hI2, hC2⟩
  rw [ee2 rfl]
  refine x_if_icmp_eq 1694 1587 hK rfl rfl rfl re1 re1 (fun _ => ?_) (fun c9 => absurd rfl c9)
  exact hE _ _ _ _ l0 l1 l2 l3 l4 lo (hI2.mono (by omega)) trivial (by omega) (by omega)
set_option maxRecDepth 8000 in
theorem lc46 (hK : CLO (CLd SPt 310) ac9L_law (some .boolean) lwQ K) (hX : ∀ (pc : Nat) (ls : List (Nat × Value)) (st : List Value) (h : aH) (bc bs : Nat), lwXR Lx xs K pc ls st h bc bs → K pc ls st h bc bs) {t b : Int} {h : aH} {ls : List (Nat × Value)} {bc bs : Nat} (ht : 0 ≤ t ∧ t + 5 ≤ (Lx : Int)) (hL : Lx ≤ 5) (hI : INV sh b h) (hC : CR h) (hb : b ≤ 320000) (l0 : lk ls 0 = some (.ref 1000006)) (l1 : lk ls 1 = some (.ref 0)) (l2 : lk ls 2 = some (.ref 171)) (l3 : lk ls 3 = some (.ref 201)) (l4 : lk ls 4 = some (.int (I t))) (lo : lok ls = true) (hbc : 1 ≤ bc) (hbs : 6 ≤ bs)
    (hE : ∀ (ls' : List (Nat × Value)) (h' : aH) (bc' bs' : Nat), lk ls' 0 = some (.ref 1000006) → lk ls' 1 = some (.ref 0) → lk ls' 2 = some (.ref 171) → lk ls' 3 = some (.ref 201) → lk ls' 4 = some (.int (I t)) → lok ls' = true → INV sh (b + 600) h' → CRO h' → bc ≤ bc' + 1 → bs ≤ bs' + 6 → K 1694 ls' [] h' bc' bs') : K 1589 ls [] h bc bs := by
  have hK := sub_K hK 46 (S := aS46) rfl
  have hmono := MONO_CLd SPt_mono 310
  refine x_aload_n 1590 hK rfl rfl l1 ?_
  refine x_aload_n 1591 hK rfl rfl l0 ?_
  refine x_iload 1593 hK rfl rfl l4 ?_
  refine x_iconst 1594 hK rfl rfl ?_
  refine x_iadd 1595 hK rfl rfl ?_
  refine x_scr 1596 46 hX rfl rfl rfl (by omega) (by omega) ?_
  refine x_callV 1599 hK hmono rfl rfl [.ref 0, .int (I ((xs (t + 1).toNat).toInt))] [] rfl rfl (Nat.le_of_ble_eq_true rfl) (Nat.le_of_ble_eq_true rfl) rfl (s0_ hI) (pr_again hI hC hb (r_I _)) ?_
  rintro v1 h1 ⟨e1, re1, rfl, hG1, cl1⟩
  refine x_aload_n 1600 hK rfl rfl l2 ?_
  refine x_aload_n 1601 hK rfl rfl l0 ?_
  refine x_iload 1603 hK rfl rfl l4 ?_
  refine x_iconst 1604 hK rfl rfl ?_
  refine x_iadd 1605 hK rfl rfl ?_
  refine x_scr 1606 46 hX rfl rfl rfl (by omega) (by omega) ?_
  refine x_callV 1609 hK hmono rfl rfl [.ref 171, .int (I ((xs (t + 1).toNat).toInt))] [.int (I (e1))] rfl rfl (Nat.le_of_ble_eq_true rfl) (Nat.le_of_ble_eq_true rfl) rfl (s171g_ hG1) cl1 ?_
  rintro v2 h2 ⟨e2, re2, rfl, ee2, hI2, hC2⟩
  rw [ee2 rfl]
  refine x_if_icmp_eq 1694 1612 hK rfl rfl rfl re1 re1 (fun _ => ?_) (fun c9 => absurd rfl c9)
  exact hE _ _ _ _ l0 l1 l2 l3 l4 lo (hI2.mono (by omega)) trivial (by omega) (by omega)
set_option maxRecDepth 8000 in
theorem lc47 (hK : CLO (CLd SPt 310) ac9L_law (some .boolean) lwQ K) (hX : ∀ (pc : Nat) (ls : List (Nat × Value)) (st : List Value) (h : aH) (bc bs : Nat), lwXR Lx xs K pc ls st h bc bs → K pc ls st h bc bs) {t b : Int} {h : aH} {ls : List (Nat × Value)} {bc bs : Nat} (ht : 0 ≤ t ∧ t + 5 ≤ (Lx : Int)) (hL : Lx ≤ 5) (hI : INV sh b h) (hC : CR h) (hb : b ≤ 320000) (l0 : lk ls 0 = some (.ref 1000006)) (l1 : lk ls 1 = some (.ref 0)) (l2 : lk ls 2 = some (.ref 171)) (l3 : lk ls 3 = some (.ref 201)) (l4 : lk ls 4 = some (.int (I t))) (lo : lok ls = true) (hbc : 1 ≤ bc) (hbs : 6 ≤ bs)
    (hE : ∀ (ls' : List (Nat × Value)) (h' : aH) (bc' bs' : Nat), lk ls' 0 = some (.ref 1000006) → lk ls' 1 = some (.ref 0) → lk ls' 2 = some (.ref 171) → lk ls' 3 = some (.ref 201) → lk ls' 4 = some (.int (I t)) → lok ls' = true → INV sh (b + 600) h' → CRO h' → bc ≤ bc' + 1 → bs ≤ bs' + 6 → K 1694 ls' [] h' bc' bs') : K 1614 ls [] h bc bs := by
  have hK := sub_K hK 47 (S := aS47) rfl
  have hmono := MONO_CLd SPt_mono 310
  refine x_aload_n 1615 hK rfl rfl l1 ?_
  refine x_aload_n 1616 hK rfl rfl l0 ?_
  refine x_iload 1618 hK rfl rfl l4 ?_
  refine x_iconst 1619 hK rfl rfl ?_
  refine x_iadd 1620 hK rfl rfl ?_
  refine x_scr 1621 47 hX rfl rfl rfl (by omega) (by omega) ?_
  refine x_callV 1624 hK hmono rfl rfl [.ref 0, .int (I ((xs (t + 1).toNat).toInt))] [] rfl rfl (Nat.le_of_ble_eq_true rfl) (Nat.le_of_ble_eq_true rfl) rfl (s0_ hI) (pr_count hI hC hb (r_I _)) ?_
  rintro v1 h1 ⟨e1, re1, rfl, hG1, cl1⟩
  refine x_aload_n 1625 hK rfl rfl l2 ?_
  refine x_aload_n 1626 hK rfl rfl l0 ?_
  refine x_iload 1628 hK rfl rfl l4 ?_
  refine x_iconst 1629 hK rfl rfl ?_
  refine x_iadd 1630 hK rfl rfl ?_
  refine x_scr 1631 47 hX rfl rfl rfl (by omega) (by omega) ?_
  refine x_callV 1634 hK hmono rfl rfl [.ref 171, .int (I ((xs (t + 1).toNat).toInt))] [.int (I (e1))] rfl rfl (Nat.le_of_ble_eq_true rfl) (Nat.le_of_ble_eq_true rfl) rfl (s171g_ hG1) cl1 ?_
  rintro v2 h2 ⟨e2, re2, rfl, ee2, hI2, hC2⟩
  rw [ee2 rfl]
  refine x_if_icmp_eq 1694 1637 hK rfl rfl rfl re1 re1 (fun _ => ?_) (fun c9 => absurd rfl c9)
  exact hE _ _ _ _ l0 l1 l2 l3 l4 lo (hI2.mono (by omega)) trivial (by omega) (by omega)
set_option maxRecDepth 8000 in
theorem lc48 (hK : CLO (CLd SPt 310) ac9L_law (some .boolean) lwQ K) (hX : ∀ (pc : Nat) (ls : List (Nat × Value)) (st : List Value) (h : aH) (bc bs : Nat), lwXR Lx xs K pc ls st h bc bs → K pc ls st h bc bs) {t b : Int} {h : aH} {ls : List (Nat × Value)} {bc bs : Nat} (ht : 0 ≤ t ∧ t + 5 ≤ (Lx : Int)) (hL : Lx ≤ 5) (hI : INV sh b h) (hC : CR h) (hb : b ≤ 320000) (l0 : lk ls 0 = some (.ref 1000006)) (l1 : lk ls 1 = some (.ref 0)) (l2 : lk ls 2 = some (.ref 171)) (l3 : lk ls 3 = some (.ref 201)) (l4 : lk ls 4 = some (.int (I t))) (lo : lok ls = true) (hbc : 1 ≤ bc) (hbs : 6 ≤ bs)
    (hE : ∀ (ls' : List (Nat × Value)) (h' : aH) (bc' bs' : Nat), lk ls' 0 = some (.ref 1000006) → lk ls' 1 = some (.ref 0) → lk ls' 2 = some (.ref 171) → lk ls' 3 = some (.ref 201) → lk ls' 4 = some (.int (I t)) → lok ls' = true → INV sh (b + 600) h' → CRO h' → bc ≤ bc' + 1 → bs ≤ bs' + 6 → K 1694 ls' [] h' bc' bs') : K 1639 ls [] h bc bs := by
  have hK := sub_K hK 48 (S := aS48) rfl
  have hmono := MONO_CLd SPt_mono 310
  refine x_aload_n 1640 hK rfl rfl l1 ?_
  refine x_aload_n 1641 hK rfl rfl l0 ?_
  refine x_iload 1643 hK rfl rfl l4 ?_
  refine x_iconst 1644 hK rfl rfl ?_
  refine x_iadd 1645 hK rfl rfl ?_
  refine x_scr 1646 48 hX rfl rfl rfl (by omega) (by omega) ?_
  refine x_aload_n 1647 hK rfl rfl l3 ?_
  refine hX _ _ _ _ _ _ (Or.inr (Or.inr (Or.inr (Or.inr (Or.inr (Or.inr (⟨rfl, sh, _, hI.1, s201_ hI, r_I _, rfl, lok_okv lo (sl_ hI), hbc, hbs, fun v1 h1 hw => ?_⟩)))))))
  rcases hw with ⟨hR1, rfl, rfl⟩ | ⟨w1, hR1, rfl, rfl⟩
  · refine x_istore 1652 hK rfl rfl _ rfl ?_
    have m2x0 := lk1_n (i := 5) (v := .int (I (1))) l0 (by decide) (Or.inl rfl)
    have m2x1 := lk1_n (i := 5) (v := .int (I (1))) l1 (by decide) (Or.inl rfl)
    have m2x2 := lk1_n (i := 5) (v := .int (I (1))) l2 (by decide) (Or.inl rfl)
    have m2x3 := lk1_n (i := 5) (v := .int (I (1))) l3 (by decide) (Or.inl rfl)
    have m2x4 := lk1_n (i := 5) (v := .int (I (1))) l4 (by decide) (Or.inl rfl)
    have m2x5 : lk (so1 ls 5 (.int (I (1)))) 5 = some (.int (I (1))) := lk1_s
    have lo2 := lok_so1 (i := 5) (v := .int (I (1))) lo rfl
    refine x_aload_n 1653 hK rfl rfl m2x2 ?_
    refine x_aload_n 1654 hK rfl rfl m2x0 ?_
    refine x_iload 1656 hK rfl rfl m2x4 ?_
    refine x_iconst 1657 hK rfl rfl ?_
    refine x_iadd 1658 hK rfl rfl ?_
    refine x_scr 1659 48 hX rfl rfl rfl (by omega) (by omega) ?_
    refine x_callV 1662 hK hmono rfl rfl [.ref 171, .int (I ((xs (t + 1).toNat).toInt))] [] rfl rfl (Nat.le_of_ble_eq_true rfl) (Nat.le_of_ble_eq_true rfl) rfl (s171_ hI) (pw_row hI hC (r_I _) hR1) ?_
    rintro v3 h3 ⟨e3, re3, rfl, tn3, tv3, hI3, hC3, hj3⟩
    have t3 := tn3 rfl
    refine x_lstore 1664 hK rfl rfl _ rfl ?_
    have m4x0 := lk2_n (i := 6) (v := .long (J (e3))) m2x0 (by decide) (by decide) (Or.inl rfl)
    have m4x1 := lk2_n (i := 6) (v := .long (J (e3))) m2x1 (by decide) (by decide) (Or.inl rfl)
    have m4x2 := lk2_n (i := 6) (v := .long (J (e3))) m2x2 (by decide) (by decide) (Or.inl rfl)
    have m4x3 := lk2_n (i := 6) (v := .long (J (e3))) m2x3 (by decide) (by decide) (Or.inl rfl)
    have m4x4 := lk2_n (i := 6) (v := .long (J (e3))) m2x4 (by decide) (by decide) (Or.inl rfl)
    have m4x5 := lk2_n (i := 6) (v := .long (J (e3))) m2x5 (by decide) (by decide) (Or.inl rfl)
    have m4x6 : lk (so2 (so1 ls 5 (.int (I (1)))) 6 (.long (J (e3)))) 6 = some (.long (J (e3))) := lk2_s
    have lo4 := lok_so2 (i := 6) (v := .long (J (e3))) lo2 rfl
    refine x_aload_n 1665 hK rfl rfl m4x2 ?_
    refine x_callV 1668 hK hmono rfl rfl [.ref 171] [] rfl rfl (Nat.le_of_ble_eq_true rfl) (Nat.le_of_ble_eq_true rfl) rfl (s171_ hI3) (CLd_le (Nat.le_of_ble_eq_true rfl) (ctX11_thrown SPt_mono hI3.1)) ?_
    rintro v5 h5 ⟨rfl, rfl⟩
    rw [t3]
    refine x_iload 1670 hK rfl rfl m4x5 ?_
    refine x_if_icmp_eq 1675 1673 hK rfl rfl rfl (by omega) (by omega) (fun _ => ?_) (fun c9 => absurd (by decide) c9)
    refine x_iload 1677 hK rfl rfl m4x5 ?_
    refine x_if_ne 1691 1680 hK rfl rfl rfl (by omega) (fun _ => ?_) (fun c9 => absurd (by decide) c9)
    refine x_goto 1694 hK rfl rfl ?_
    exact hE _ _ _ _ m4x0 m4x1 m4x2 m4x3 m4x4 lo4 (hI3.mono (by omega)) trivial (by omega) (by omega)
  · have hI1 := INV_J (a := 201) (k := 0) (v := J w1) hI
    have hC1 := CR_J (v := J w1) hC
    refine x_istore 1652 hK rfl rfl _ rfl ?_
    have m6x0 := lk1_n (i := 5) (v := .int (I (0))) l0 (by decide) (Or.inl rfl)
    have m6x1 := lk1_n (i := 5) (v := .int (I (0))) l1 (by decide) (Or.inl rfl)
    have m6x2 := lk1_n (i := 5) (v := .int (I (0))) l2 (by decide) (Or.inl rfl)
    have m6x3 := lk1_n (i := 5) (v := .int (I (0))) l3 (by decide) (Or.inl rfl)
    have m6x4 := lk1_n (i := 5) (v := .int (I (0))) l4 (by decide) (Or.inl rfl)
    have m6x5 : lk (so1 ls 5 (.int (I (0)))) 5 = some (.int (I (0))) := lk1_s
    have lo6 := lok_so1 (i := 5) (v := .int (I (0))) lo rfl
    refine x_aload_n 1653 hK rfl rfl m6x2 ?_
    refine x_aload_n 1654 hK rfl rfl m6x0 ?_
    refine x_iload 1656 hK rfl rfl m6x4 ?_
    refine x_iconst 1657 hK rfl rfl ?_
    refine x_iadd 1658 hK rfl rfl ?_
    refine x_scr 1659 48 hX rfl rfl rfl (by omega) (by omega) ?_
    refine x_callV 1662 hK hmono rfl rfl [.ref 171, .int (I ((xs (t + 1).toNat).toInt))] [] rfl rfl (Nat.le_of_ble_eq_true rfl) (Nat.le_of_ble_eq_true rfl) rfl (s171_ hI1) (pw_row hI1 hC1 (r_I _) (rowR_J hI.1 hR1)) ?_
    rintro v7 h7 ⟨e7, re7, rfl, tn7, tv7, hI7, hC7, hj7⟩
    obtain ⟨t7, ev7⟩ := tv7 _ rfl
    have q7 : r64 e7 := by omega
    have jj7 : (aJ h7 201 0).toInt = e7 := hj7.trans (by rw [ev7]; exact gj_same q7)
    refine x_lstore 1664 hK rfl rfl _ rfl ?_
    have m8x0 := lk2_n (i := 6) (v := .long (J (e7))) m6x0 (by decide) (by decide) (Or.inl rfl)
    have m8x1 := lk2_n (i := 6) (v := .long (J (e7))) m6x1 (by decide) (by decide) (Or.inl rfl)
    have m8x2 := lk2_n (i := 6) (v := .long (J (e7))) m6x2 (by decide) (by decide) (Or.inl rfl)
    have m8x3 := lk2_n (i := 6) (v := .long (J (e7))) m6x3 (by decide) (by decide) (Or.inl rfl)
    have m8x4 := lk2_n (i := 6) (v := .long (J (e7))) m6x4 (by decide) (by decide) (Or.inl rfl)
    have m8x5 := lk2_n (i := 6) (v := .long (J (e7))) m6x5 (by decide) (by decide) (Or.inl rfl)
    have m8x6 : lk (so2 (so1 ls 5 (.int (I (0)))) 6 (.long (J (e7)))) 6 = some (.long (J (e7))) := lk2_s
    have lo8 := lok_so2 (i := 6) (v := .long (J (e7))) lo6 rfl
    refine x_aload_n 1665 hK rfl rfl m8x2 ?_
    refine x_callV 1668 hK hmono rfl rfl [.ref 171] [] rfl rfl (Nat.le_of_ble_eq_true rfl) (Nat.le_of_ble_eq_true rfl) rfl (s171_ hI7) (CLd_le (Nat.le_of_ble_eq_true rfl) (ctX11_thrown SPt_mono hI7.1)) ?_
    rintro v9 h9 ⟨rfl, rfl⟩
    rw [t7]
    refine x_iload 1670 hK rfl rfl m8x5 ?_
    refine x_if_icmp_eq 1675 1673 hK rfl rfl rfl (by omega) (by omega) (fun _ => ?_) (fun c9 => absurd (by decide) c9)
    refine x_iload 1677 hK rfl rfl m8x5 ?_
    refine x_if_ne 1691 1680 hK rfl rfl rfl (by omega) (fun c9 => absurd c9 (by decide)) (fun _ => ?_)
    refine x_aload_n 1681 hK rfl rfl m8x3 ?_
    refine x_iconst 1682 hK rfl rfl ?_
    refine x_laload (n := 1) 1683 hK rfl rfl (s201_ hI7) (by omega) (by omega) (by omega) ?_
    rw [show (0 : Int).toNat = 0 from rfl, jj7]
    refine x_lload 1685 hK rfl rfl m8x6 ?_
    refine x_lcmp 1686 hK rfl rfl q7 q7 ?_
    rw [if_neg (Int.lt_irrefl _), if_neg (Int.lt_irrefl _)]
    refine x_if_eq 1691 1689 hK rfl rfl rfl (by omega) (fun _ => ?_) (fun c9 => absurd (by decide) c9)
    refine x_goto 1694 hK rfl rfl ?_
    exact hE _ _ _ _ m8x0 m8x1 m8x2 m8x3 m8x4 lo8 (hI7.mono (by omega)) trivial (by omega) (by omega)
set_option maxRecDepth 8000 in
set_option maxHeartbeats 2000000 in
theorem law_loop (hK : CLO (CLd SPt 310) ac9L_law (some .boolean) lwQ K) (hX : ∀ (pc : Nat) (ls : List (Nat × Value)) (st : List Value) (h : aH) (bc bs : Nat), lwXR Lx xs K pc ls st h bc bs → K pc ls st h bc bs) (hL : Lx ≤ 5) : ∀ (n : Nat) (t b : Int) (h : aH) (ls : List (Nat × Value)) (bc bs : Nat), (Lx : Int) - t < 5 * n + 5 → 0 ≤ t → t ≤ Lx + 5 → b + 600 * n ≤ 310000 → n ≤ bc → 6 * n ≤ bs → INV sh b h → (t = 0 → CR h) → lk ls 0 = some (.ref 1000006) → lk ls 1 = some (.ref 0) → lk ls 2 = some (.ref 171) → lk ls 3 = some (.ref 201) → lk ls 4 = some (.int (I t)) → lok ls = true → K 23 ls [] h bc bs := by
  have hK0 := sub_K hK 0 (S := aS0) rfl
  have hKz := sub_K hK 49 (S := aS49) rfl
  intro n
  induction n with
  | zero =>
    intro t b h ls bc bs hn h0 h5 hb hbc hbs hI hC l0 l1 l2 l3 l4 lo
    refine x_iload 25 hK0 rfl rfl l4 ?_
    refine x_aload_n 26 hK0 rfl rfl l0 ?_
    refine x_slen 27 0 hX rfl rfl rfl ?_
    refine x_iconst 28 hK0 rfl rfl ?_
    refine x_isub 29 hK0 rfl rfl ?_
    refine x_if_icmp_gt 1700 32 hK0 rfl rfl rfl (by omega) (by omega) (fun c9 => ?_) (fun c9 => ?_)
    · refine x_iconst 1701 hKz rfl rfl ?_
      exact x_zret hKz rfl (Or.inr rfl) rfl
    · omega
  | succ n ih =>
    intro t b h ls bc bs hn h0 h5 hb hbc hbs hI hC l0 l1 l2 l3 l4 lo
    refine x_iload 25 hK0 rfl rfl l4 ?_
    refine x_aload_n 26 hK0 rfl rfl l0 ?_
    refine x_slen 27 0 hX rfl rfl rfl ?_
    refine x_iconst 28 hK0 rfl rfl ?_
    refine x_isub 29 hK0 rfl rfl ?_
    refine x_if_icmp_gt 1700 32 hK0 rfl rfl rfl (by omega) (by omega) (fun c9 => ?_) (fun c9 => ?_)
    · refine x_iconst 1701 hKz rfl rfl ?_
      exact x_zret hKz rfl (Or.inr rfl) rfl
    · have hs : 0 ≤ t ∧ t + 5 ≤ (Lx : Int) := by omega
      refine x_aload_n 33 hK0 rfl rfl l0 ?_
      refine x_iload 35 hK0 rfl rfl l4 ?_
      refine x_scr 36 0 hX rfl rfl rfl (by omega) (by omega) ?_
      refine x_bipush 38 hK0 rfl rfl rfl ?_
      refine x_iandX 39 hK0 rfl rfl (fun c rc => ?_)
      refine x_tsw hK0 rfl rc rfl ?_
      have hE : ∀ (ls' : List (Nat × Value)) (h' : aH) (bc' bs' : Nat), lk ls' 0 = some (.ref 1000006) → lk ls' 1 = some (.ref 0) → lk ls' 2 = some (.ref 171) → lk ls' 3 = some (.ref 201) → lk ls' 4 = some (.int (I t)) → lok ls' = true → INV sh (b + 600) h' → CRO h' → bc ≤ bc' + 1 → bs ≤ bs' + 6 → K 1694 ls' [] h' bc' bs' := by
        intro ls' h' bc' bs' l0 l1 l2 l3 l4 lo hI' hC' hc hs'
        refine x_iinc 1697 hKz rfl rfl l4 _ rfl ?_
        refine x_goto 23 hKz rfl rfl ?_
        exact ih (t + 5) (b + 600) h' _ bc' bs' (by omega) (by omega) (by omega) (by omega) (by omega) (by omega) hI' (fun z => absurd z (by omega)) (lk1_n l0 (by decide) (Or.inl rfl)) (lk1_n l1 (by decide) (Or.inl rfl)) (lk1_n l2 (by decide) (Or.inl rfl)) (lk1_n l3 (by decide) (Or.inl rfl)) lk1_s (lok_so1 lo rfl)
      rcases (show c = 0 ∨ c = 1 ∨ c = 2 ∨ c = 3 ∨ c = 4 ∨ c = 5 ∨ c = 6 ∨ c = 7 ∨ c = 8 ∨ c = 9 ∨ c = 10 ∨ c = 11 ∨ c = 12 ∨ c = 13 ∨ c = 14 ∨ c = 15 ∨ c = 16 ∨ c = 17 ∨ c = 18 ∨ c = 19 ∨ c = 20 ∨ c = 21 ∨ c = 22 ∨ c = 23 ∨ c = 24 ∨ c = 25 ∨ c = 26 ∨ c = 27 ∨ c = 28 ∨ c = 29 ∨ c = 30 ∨ c = 31 ∨ c = 32 ∨ c = 33 ∨ c = 34 ∨ c = 35 ∨ c = 36 ∨ c = 37 ∨ c = 38 ∨ c = 39 ∨ c = 40 ∨ c = 41 ∨ c = 42 ∨ c = 43 ∨ c = 44 ∨ c = 45 ∨ c = 46 ∨ c = 47 ∨ (c < 0 ∨ 48 ≤ c) by omega) with rfl | rfl | rfl | rfl | rfl | rfl | rfl | rfl | rfl | rfl | rfl | rfl | rfl | rfl | rfl | rfl | rfl | rfl | rfl | rfl | rfl | rfl | rfl | rfl | rfl | rfl | rfl | rfl | rfl | rfl | rfl | rfl | rfl | rfl | rfl | rfl | rfl | rfl | rfl | rfl | rfl | rfl | rfl | rfl | rfl | rfl | rfl | rfl | hc9
      · exact lc1 hK hX hs hL hI (hC (by omega)) (by omega) l0 l1 l2 l3 l4 lo (by omega) (by omega) hE
      · exact lc2 hK hX hs hL hI (hC (by omega)) (by omega) l0 l1 l2 l3 l4 lo (by omega) (by omega) hE
      · exact lc3 hK hX hs hL hI (hC (by omega)) (by omega) l0 l1 l2 l3 l4 lo (by omega) (by omega) hE
      · exact lc4 hK hX hs hL hI (hC (by omega)) (by omega) l0 l1 l2 l3 l4 lo (by omega) (by omega) hE
      · exact lc5 hK hX hs hL hI (hC (by omega)) (by omega) l0 l1 l2 l3 l4 lo (by omega) (by omega) hE
      · exact lc6 hK hX hs hL hI (hC (by omega)) (by omega) l0 l1 l2 l3 l4 lo (by omega) (by omega) hE
      · exact lc7 hK hX hs hL hI (hC (by omega)) (by omega) l0 l1 l2 l3 l4 lo (by omega) (by omega) hE
      · exact lc8 hK hX hs hL hI (hC (by omega)) (by omega) l0 l1 l2 l3 l4 lo (by omega) (by omega) hE
      · exact lc9 hK hX hs hL hI (hC (by omega)) (by omega) l0 l1 l2 l3 l4 lo (by omega) (by omega) hE
      · exact lc10 hK hX hs hL hI (hC (by omega)) (by omega) l0 l1 l2 l3 l4 lo (by omega) (by omega) hE
      · exact lc11 hK hX hs hL hI (hC (by omega)) (by omega) l0 l1 l2 l3 l4 lo (by omega) (by omega) hE
      · exact lc12 hK hX hs hL hI (hC (by omega)) (by omega) l0 l1 l2 l3 l4 lo (by omega) (by omega) hE
      · exact lc13 hK hX hs hL hI (hC (by omega)) (by omega) l0 l1 l2 l3 l4 lo (by omega) (by omega) hE
      · exact lc14 hK hX hs hL hI (hC (by omega)) (by omega) l0 l1 l2 l3 l4 lo (by omega) (by omega) hE
      · exact lc15 hK hX hs hL hI (hC (by omega)) (by omega) l0 l1 l2 l3 l4 lo (by omega) (by omega) hE
      · exact lc16 hK hX hs hL hI (hC (by omega)) (by omega) l0 l1 l2 l3 l4 lo (by omega) (by omega) hE
      · exact lc17 hK hX hs hL hI (hC (by omega)) (by omega) l0 l1 l2 l3 l4 lo (by omega) (by omega) hE
      · exact lc18 hK hX hs hL hI (hC (by omega)) (by omega) l0 l1 l2 l3 l4 lo (by omega) (by omega) hE
      · exact lc19 hK hX hs hL hI (hC (by omega)) (by omega) l0 l1 l2 l3 l4 lo (by omega) (by omega) hE
      · exact lc20 hK hX hs hL hI (hC (by omega)) (by omega) l0 l1 l2 l3 l4 lo (by omega) (by omega) hE
      · exact lc21 hK hX hs hL hI (hC (by omega)) (by omega) l0 l1 l2 l3 l4 lo (by omega) (by omega) hE
      · exact lc22 hK hX hs hL hI (hC (by omega)) (by omega) l0 l1 l2 l3 l4 lo (by omega) (by omega) hE
      · exact lc23 hK hX hs hL hI (hC (by omega)) (by omega) l0 l1 l2 l3 l4 lo (by omega) (by omega) hE
      · exact lc24 hK hX hs hL hI (hC (by omega)) (by omega) l0 l1 l2 l3 l4 lo (by omega) (by omega) hE
      · exact lc25 hK hX hs hL hI (hC (by omega)) (by omega) l0 l1 l2 l3 l4 lo (by omega) (by omega) hE
      · exact lc26 hK hX hs hL hI (hC (by omega)) (by omega) l0 l1 l2 l3 l4 lo (by omega) (by omega) hE
      · exact lc27 hK hX hs hL hI (hC (by omega)) (by omega) l0 l1 l2 l3 l4 lo (by omega) (by omega) hE
      · exact lc28 hK hX hs hL hI (hC (by omega)) (by omega) l0 l1 l2 l3 l4 lo (by omega) (by omega) hE
      · exact lc29 hK hX hs hL hI (hC (by omega)) (by omega) l0 l1 l2 l3 l4 lo (by omega) (by omega) hE
      · exact lc30 hK hX hs hL hI (hC (by omega)) (by omega) l0 l1 l2 l3 l4 lo (by omega) (by omega) hE
      · exact lc31 hK hX hs hL hI (hC (by omega)) (by omega) l0 l1 l2 l3 l4 lo (by omega) (by omega) hE
      · exact lc32 hK hX hs hL hI (hC (by omega)) (by omega) l0 l1 l2 l3 l4 lo (by omega) (by omega) hE
      · exact lc33 hK hX hs hL hI (hC (by omega)) (by omega) l0 l1 l2 l3 l4 lo (by omega) (by omega) hE
      · exact lc34 hK hX hs hL hI (hC (by omega)) (by omega) l0 l1 l2 l3 l4 lo (by omega) (by omega) hE
      · exact lc35 hK hX hs hL hI (hC (by omega)) (by omega) l0 l1 l2 l3 l4 lo (by omega) (by omega) hE
      · exact lc36 hK hX hs hL hI (hC (by omega)) (by omega) l0 l1 l2 l3 l4 lo (by omega) (by omega) hE
      · exact lc37 hK hX hs hL hI (hC (by omega)) (by omega) l0 l1 l2 l3 l4 lo (by omega) (by omega) hE
      · exact lc38 hK hX hs hL hI (hC (by omega)) (by omega) l0 l1 l2 l3 l4 lo (by omega) (by omega) hE
      · exact lc39 hK hX hs hL hI (hC (by omega)) (by omega) l0 l1 l2 l3 l4 lo (by omega) (by omega) hE
      · exact lc40 hK hX hs hL hI (hC (by omega)) (by omega) l0 l1 l2 l3 l4 lo (by omega) (by omega) hE
      · exact lc41 hK hX hs hL hI (hC (by omega)) (by omega) l0 l1 l2 l3 l4 lo (by omega) (by omega) hE
      · exact lc42 hK hX hs hL hI (hC (by omega)) (by omega) l0 l1 l2 l3 l4 lo (by omega) (by omega) hE
      · exact lc43 hK hX hs hL hI (hC (by omega)) (by omega) l0 l1 l2 l3 l4 lo (by omega) (by omega) hE
      · exact lc44 hK hX hs hL hI (hC (by omega)) (by omega) l0 l1 l2 l3 l4 lo (by omega) (by omega) hE
      · exact lc45 hK hX hs hL hI (hC (by omega)) (by omega) l0 l1 l2 l3 l4 lo (by omega) (by omega) hE
      · exact lc46 hK hX hs hL hI (hC (by omega)) (by omega) l0 l1 l2 l3 l4 lo (by omega) (by omega) hE
      · exact lc47 hK hX hs hL hI (hC (by omega)) (by omega) l0 l1 l2 l3 l4 lo (by omega) (by omega) hE
      · exact lc48 hK hX hs hL hI (hC (by omega)) (by omega) l0 l1 l2 l3 l4 lo (by omega) (by omega) hE
      · rw [swI_d hc9]
        exact hE ls h bc bs l0 l1 l2 l3 l4 lo (hI.mono (by omega)) trivial (by omega) (by omega)
end LAWR
