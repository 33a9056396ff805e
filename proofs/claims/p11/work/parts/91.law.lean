/-! THE LAW'S RUN -/
noncomputable def aS0 : AC := [(0, .new 8, 10, 0, 0), (3, .dup, 0, 0, 0), (4, .invokespecial 28, 61, 2, 1), (7, .astore_n 1, 0, 0, 0), (8, .new 29, 11, 0, 0), (11, .dup, 0, 0, 0), (12, .invokespecial 31, 139, 2, 1), (15, .astore_n 2, 0, 0, 0), (16, .iconst 1, 0, 0, 0), (17, .newarray .long, 1, 0, 0), (19, .astore_n 3, 0, 0, 0), (20, .iconst 0, 0, 0, 0), (21, .istore 4, 0, 0, 0), (23, .iload 4, 0, 0, 0), (25, .aload_n 0, 0, 0, 0), (26, .arraylength, 0, 0, 0), (27, .iconst 5, 0, 0, 0), (28, .isub, 0, 0, 0), (29, .if_icmp .gt 1560, 0, 0, 0), (32, .aload_n 0, 0, 0, 0), (33, .iload 4, 0, 0, 0), (35, .iaload, 0, 0, 0), (36, .bipush 63, 0, 0, 0), (38, .iand, 0, 0, 0), (39, .tableswitch 1544 0 47 #[205, 230, 255, 268, 281, 294, 307, 347, 387, 427, 495, 556, 569, 594, 643, 680, 705, 718, 731, 756, 769, 782, 807, 832, 857, 882, 907, 932, 957, 982, 1019, 1056, 1081, 1106, 1131, 1168, 1181, 1194, 1207, 1244, 1269, 1306, 1355, 1404, 1441, 1466, 1491, 1516], 0, 0, 0)]
noncomputable def aS1 : AC := [(244, .aload_n 1, 0, 0, 0), (245, .aload_n 0, 0, 0, 0), (246, .iload 4, 0, 0, 0), (248, .iconst 1, 0, 0, 0), (249, .iadd, 0, 0, 0), (250, .iaload, 0, 0, 0), (251, .invokevirtual 32, 62, 0, 1002), (254, .pop, 0, 0, 0), (255, .aload_n 2, 0, 0, 0), (256, .aload_n 0, 0, 0, 0), (257, .iload 4, 0, 0, 0), (259, .iconst 1, 0, 0, 0), (260, .iadd, 0, 0, 0), (261, .iaload, 0, 0, 0), (262, .invokevirtual 36, 149, 0, 1102), (265, .pop, 0, 0, 0), (266, .goto 1317, 0, 0, 0)]
noncomputable def aS2 : AC := [(269, .aload_n 1, 0, 0, 0), (270, .aload_n 0, 0, 0, 0), (271, .iload 4, 0, 0, 0), (273, .iconst 1, 0, 0, 0), (274, .iadd, 0, 0, 0), (275, .iaload, 0, 0, 0), (276, .invokevirtual 37, 63, 0, 1002), (279, .pop, 0, 0, 0), (280, .aload_n 2, 0, 0, 0), (281, .aload_n 0, 0, 0, 0), (282, .iload 4, 0, 0, 0), (284, .iconst 1, 0, 0, 0), (285, .iadd, 0, 0, 0), (286, .iaload, 0, 0, 0), (287, .invokevirtual 41, 150, 0, 1102), (290, .pop, 0, 0, 0), (291, .goto 1292, 0, 0, 0)]
noncomputable def aS3 : AC := [(294, .aload_n 1, 0, 0, 0), (295, .invokevirtual 42, 64, 0, 1001), (298, .pop, 0, 0, 0), (299, .aload_n 2, 0, 0, 0), (300, .invokevirtual 46, 159, 0, 1101), (303, .pop, 0, 0, 0), (304, .goto 1279, 0, 0, 0)]
noncomputable def aS4 : AC := [(307, .aload_n 1, 0, 0, 0), (308, .invokevirtual 47, 65, 0, 1001), (311, .pop, 0, 0, 0), (312, .aload_n 2, 0, 0, 0), (313, .invokevirtual 50, 162, 0, 1101), (316, .pop, 0, 0, 0), (317, .goto 1266, 0, 0, 0)]
noncomputable def aS5 : AC := [(320, .aload_n 1, 0, 0, 0), (321, .invokevirtual 51, 66, 0, 1001), (324, .pop, 0, 0, 0), (325, .aload_n 2, 0, 0, 0), (326, .invokevirtual 54, 163, 0, 1101), (329, .pop, 0, 0, 0), (330, .goto 1253, 0, 0, 0)]
noncomputable def aS6 : AC := [(333, .aload_n 1, 0, 0, 0), (334, .invokevirtual 55, 67, 0, 1001), (337, .pop, 0, 0, 0), (338, .aload_n 2, 0, 0, 0), (339, .invokevirtual 58, 167, 0, 1101), (342, .pop, 0, 0, 0), (343, .goto 1240, 0, 0, 0)]
noncomputable def aS7 : AC := [(346, .aload_n 1, 0, 0, 0), (347, .aload_n 0, 0, 0, 0), (348, .iload 4, 0, 0, 0), (350, .iconst 1, 0, 0, 0), (351, .iadd, 0, 0, 0), (352, .iaload, 0, 0, 0), (353, .aload_n 0, 0, 0, 0), (354, .iload 4, 0, 0, 0), (356, .iconst 2, 0, 0, 0), (357, .iadd, 0, 0, 0), (358, .iaload, 0, 0, 0), (359, .aload_n 3, 0, 0, 0), (363, .istore 5, 0, 0, 0), (365, .aload_n 2, 0, 0, 0), (366, .aload_n 0, 0, 0, 0), (367, .iload 4, 0, 0, 0), (369, .iconst 1, 0, 0, 0), (370, .iadd, 0, 0, 0), (371, .iaload, 0, 0, 0), (372, .aload_n 0, 0, 0, 0), (373, .iload 4, 0, 0, 0), (375, .iconst 2, 0, 0, 0), (376, .iadd, 0, 0, 0), (377, .iaload, 0, 0, 0), (378, .invokevirtual 64, 172, 0, 1103), (381, .istore 6, 0, 0, 0), (383, .goto 1200, 0, 0, 0)]
noncomputable def aS8 : AC := [(386, .aload_n 1, 0, 0, 0), (387, .aload_n 0, 0, 0, 0), (388, .iload 4, 0, 0, 0), (390, .iconst 1, 0, 0, 0), (391, .iadd, 0, 0, 0), (392, .iaload, 0, 0, 0), (393, .aload_n 0, 0, 0, 0), (394, .iload 4, 0, 0, 0), (396, .iconst 2, 0, 0, 0), (397, .iadd, 0, 0, 0), (398, .iaload, 0, 0, 0), (399, .aload_n 3, 0, 0, 0), (403, .istore 5, 0, 0, 0), (405, .aload_n 2, 0, 0, 0), (406, .aload_n 0, 0, 0, 0), (407, .iload 4, 0, 0, 0), (409, .iconst 1, 0, 0, 0), (410, .iadd, 0, 0, 0), (411, .iaload, 0, 0, 0), (412, .aload_n 0, 0, 0, 0), (413, .iload 4, 0, 0, 0), (415, .iconst 2, 0, 0, 0), (416, .iadd, 0, 0, 0), (417, .iaload, 0, 0, 0), (418, .invokevirtual 67, 173, 0, 1103), (421, .istore 6, 0, 0, 0), (423, .goto 1160, 0, 0, 0)]
noncomputable def aS9 : AC := [(426, .aload_n 1, 0, 0, 0), (427, .aload_n 0, 0, 0, 0), (428, .iload 4, 0, 0, 0), (430, .iconst 1, 0, 0, 0), (431, .iadd, 0, 0, 0), (432, .iaload, 0, 0, 0), (433, .aload_n 0, 0, 0, 0), (434, .iload 4, 0, 0, 0), (436, .iconst 2, 0, 0, 0), (437, .iadd, 0, 0, 0), (438, .iaload, 0, 0, 0), (439, .aload_n 3, 0, 0, 0), (443, .istore 5, 0, 0, 0), (445, .aload_n 2, 0, 0, 0), (446, .aload_n 0, 0, 0, 0), (447, .iload 4, 0, 0, 0), (449, .iconst 1, 0, 0, 0), (450, .iadd, 0, 0, 0), (451, .iaload, 0, 0, 0), (452, .aload_n 0, 0, 0, 0), (453, .iload 4, 0, 0, 0), (455, .iconst 2, 0, 0, 0), (456, .iadd, 0, 0, 0), (457, .iaload, 0, 0, 0), (458, .invokevirtual 70, 174, 0, 1103), (461, .istore 6, 0, 0, 0), (463, .goto 1120, 0, 0, 0)]
noncomputable def aS10 : AC := [(466, .aload_n 1, 0, 0, 0), (467, .aload_n 0, 0, 0, 0), (468, .iload 4, 0, 0, 0), (470, .iconst 1, 0, 0, 0), (471, .iadd, 0, 0, 0), (472, .iaload, 0, 0, 0), (473, .aload_n 0, 0, 0, 0), (474, .iload 4, 0, 0, 0), (476, .iconst 2, 0, 0, 0), (477, .iadd, 0, 0, 0), (478, .iaload, 0, 0, 0), (479, .aload_n 3, 0, 0, 0), (483, .istore 5, 0, 0, 0), (485, .aload_n 2, 0, 0, 0), (486, .aload_n 0, 0, 0, 0), (487, .iload 4, 0, 0, 0), (489, .iconst 1, 0, 0, 0), (490, .iadd, 0, 0, 0), (491, .iaload, 0, 0, 0), (492, .aload_n 0, 0, 0, 0), (493, .iload 4, 0, 0, 0), (495, .iconst 2, 0, 0, 0), (496, .iadd, 0, 0, 0), (497, .iaload, 0, 0, 0), (498, .invokevirtual 73, 176, 0, 1103), (501, .istore 6, 0, 0, 0), (503, .aload_n 2, 0, 0, 0), (504, .invokevirtual 74, 140, 0, 1101), (507, .iload 5, 0, 0, 0), (509, .if_icmp .eq 5, 0, 0, 0), (512, .iconst 0, 0, 0, 0), (513, .ireturn, 0, 0, 0), (514, .iload 5, 0, 0, 0), (516, .ifCond .ne 15, 0, 0, 0), (519, .aload_n 3, 0, 0, 0), (520, .iconst 0, 0, 0, 0), (521, .laload, 0, 0, 0), (522, .iload 6, 0, 0, 0), (524, .i2l, 0, 0, 0), (525, .lcmp, 0, 0, 0), (526, .ifCond .eq 5, 0, 0, 0), (529, .iconst 0, 0, 0, 0), (530, .ireturn, 0, 0, 0), (531, .goto 1052, 0, 0, 0)]
noncomputable def aS11 : AC := [(534, .aload_n 1, 0, 0, 0), (535, .aload_n 0, 0, 0, 0), (536, .iload 4, 0, 0, 0), (538, .iconst 1, 0, 0, 0), (539, .iadd, 0, 0, 0), (540, .iaload, 0, 0, 0), (541, .aload_n 0, 0, 0, 0), (542, .iload 4, 0, 0, 0), (544, .iconst 2, 0, 0, 0), (545, .iadd, 0, 0, 0), (546, .iaload, 0, 0, 0), (547, .aload_n 0, 0, 0, 0), (548, .iload 4, 0, 0, 0), (550, .iconst 3, 0, 0, 0), (551, .iadd, 0, 0, 0), (552, .iaload, 0, 0, 0), (553, .aload_n 0, 0, 0, 0), (554, .iload 4, 0, 0, 0), (556, .iconst 4, 0, 0, 0), (557, .iadd, 0, 0, 0), (558, .iaload, 0, 0, 0), (559, .invokevirtual 77, 72, 0, 1005), (562, .pop, 0, 0, 0), (563, .aload_n 2, 0, 0, 0), (564, .aload_n 0, 0, 0, 0), (565, .iload 4, 0, 0, 0), (567, .iconst 1, 0, 0, 0), (568, .iadd, 0, 0, 0), (569, .iaload, 0, 0, 0), (570, .aload_n 0, 0, 0, 0), (571, .iload 4, 0, 0, 0), (573, .iconst 2, 0, 0, 0), (574, .iadd, 0, 0, 0), (575, .iaload, 0, 0, 0), (576, .aload_n 0, 0, 0, 0), (577, .iload 4, 0, 0, 0), (579, .iconst 3, 0, 0, 0), (580, .iadd, 0, 0, 0), (581, .iaload, 0, 0, 0), (582, .aload_n 0, 0, 0, 0), (583, .iload 4, 0, 0, 0), (585, .iconst 4, 0, 0, 0), (586, .iadd, 0, 0, 0), (587, .iaload, 0, 0, 0), (588, .invokevirtual 81, 177, 0, 1105), (591, .pop, 0, 0, 0), (592, .goto 991, 0, 0, 0)]
noncomputable def aS12 : AC := [(595, .aload_n 1, 0, 0, 0), (596, .invokevirtual 82, 73, 0, 1001), (599, .pop, 0, 0, 0), (600, .aload_n 2, 0, 0, 0), (601, .invokevirtual 85, 189, 0, 1101), (604, .pop, 0, 0, 0), (605, .goto 978, 0, 0, 0)]
noncomputable def aS13 : AC := [(608, .aload_n 1, 0, 0, 0), (609, .aload_n 0, 0, 0, 0), (610, .iload 4, 0, 0, 0), (612, .iconst 1, 0, 0, 0), (613, .iadd, 0, 0, 0), (614, .iaload, 0, 0, 0), (615, .invokevirtual 86, 74, 0, 1002), (618, .pop, 0, 0, 0), (619, .aload_n 2, 0, 0, 0), (620, .aload_n 0, 0, 0, 0), (621, .iload 4, 0, 0, 0), (623, .iconst 1, 0, 0, 0), (624, .iadd, 0, 0, 0), (625, .iaload, 0, 0, 0), (626, .invokevirtual 89, 190, 0, 1102), (629, .pop, 0, 0, 0), (630, .goto 953, 0, 0, 0)]
noncomputable def aS14 : AC := [(633, .aload_n 1, 0, 0, 0), (634, .aload_n 0, 0, 0, 0), (635, .iload 4, 0, 0, 0), (637, .iconst 1, 0, 0, 0), (638, .iadd, 0, 0, 0), (639, .iaload, 0, 0, 0), (640, .aload_n 0, 0, 0, 0), (641, .iload 4, 0, 0, 0), (643, .iconst 2, 0, 0, 0), (644, .iadd, 0, 0, 0), (645, .iaload, 0, 0, 0), (646, .aload_n 0, 0, 0, 0), (647, .iload 4, 0, 0, 0), (649, .iconst 3, 0, 0, 0), (650, .iadd, 0, 0, 0), (651, .iaload, 0, 0, 0), (652, .invokevirtual 90, 75, 0, 1004), (655, .pop, 0, 0, 0), (656, .aload_n 2, 0, 0, 0), (657, .aload_n 0, 0, 0, 0), (658, .iload 4, 0, 0, 0), (660, .iconst 1, 0, 0, 0), (661, .iadd, 0, 0, 0), (662, .iaload, 0, 0, 0), (663, .aload_n 0, 0, 0, 0), (664, .iload 4, 0, 0, 0), (666, .iconst 2, 0, 0, 0), (667, .iadd, 0, 0, 0), (668, .iaload, 0, 0, 0), (669, .aload_n 0, 0, 0, 0), (670, .iload 4, 0, 0, 0), (672, .iconst 3, 0, 0, 0), (673, .iadd, 0, 0, 0), (674, .iaload, 0, 0, 0), (675, .invokevirtual 94, 191, 0, 1104), (678, .pop, 0, 0, 0), (679, .goto 904, 0, 0, 0)]
noncomputable def aS15 : AC := [(682, .aload_n 1, 0, 0, 0), (683, .aload_n 0, 0, 0, 0), (684, .iload 4, 0, 0, 0), (686, .iconst 1, 0, 0, 0), (687, .iadd, 0, 0, 0), (688, .iaload, 0, 0, 0), (689, .aload_n 0, 0, 0, 0), (690, .iload 4, 0, 0, 0), (692, .iconst 2, 0, 0, 0), (693, .iadd, 0, 0, 0), (694, .iaload, 0, 0, 0), (695, .invokevirtual 95, 76, 0, 1003), (698, .pop, 0, 0, 0), (699, .aload_n 2, 0, 0, 0), (700, .aload_n 0, 0, 0, 0), (701, .iload 4, 0, 0, 0), (703, .iconst 1, 0, 0, 0), (704, .iadd, 0, 0, 0), (705, .iaload, 0, 0, 0), (706, .aload_n 0, 0, 0, 0), (707, .iload 4, 0, 0, 0), (709, .iconst 2, 0, 0, 0), (710, .iadd, 0, 0, 0), (711, .iaload, 0, 0, 0), (712, .invokevirtual 98, 192, 0, 1103), (715, .pop, 0, 0, 0), (716, .goto 867, 0, 0, 0)]
noncomputable def aS16 : AC := [(719, .aload_n 1, 0, 0, 0), (720, .aload_n 0, 0, 0, 0), (721, .iload 4, 0, 0, 0), (723, .iconst 1, 0, 0, 0), (724, .iadd, 0, 0, 0), (725, .iaload, 0, 0, 0), (726, .invokevirtual 99, 77, 0, 1002), (729, .pop, 0, 0, 0), (730, .aload_n 2, 0, 0, 0), (731, .aload_n 0, 0, 0, 0), (732, .iload 4, 0, 0, 0), (734, .iconst 1, 0, 0, 0), (735, .iadd, 0, 0, 0), (736, .iaload, 0, 0, 0), (737, .invokevirtual 102, 194, 0, 1102), (740, .pop, 0, 0, 0), (741, .goto 842, 0, 0, 0)]
noncomputable def aS17 : AC := [(744, .aload_n 1, 0, 0, 0), (745, .invokevirtual 103, 78, 0, 1001), (748, .pop, 0, 0, 0), (749, .aload_n 2, 0, 0, 0), (750, .invokevirtual 106, 197, 0, 1101), (753, .pop, 0, 0, 0), (754, .goto 829, 0, 0, 0)]
noncomputable def aS18 : AC := [(757, .aload_n 1, 0, 0, 0), (758, .invokevirtual 107, 79, 0, 1001), (761, .pop, 0, 0, 0), (762, .aload_n 2, 0, 0, 0), (763, .invokevirtual 110, 181, 0, 1101), (766, .pop, 0, 0, 0), (767, .goto 816, 0, 0, 0)]
noncomputable def aS19 : AC := [(770, .aload_n 1, 0, 0, 0), (771, .aload_n 0, 0, 0, 0), (772, .iload 4, 0, 0, 0), (774, .iconst 1, 0, 0, 0), (775, .iadd, 0, 0, 0), (776, .iaload, 0, 0, 0), (777, .invokevirtual 111, 80, 0, 1002), (780, .pop, 0, 0, 0), (781, .aload_n 2, 0, 0, 0), (782, .aload_n 0, 0, 0, 0), (783, .iload 4, 0, 0, 0), (785, .iconst 1, 0, 0, 0), (786, .iadd, 0, 0, 0), (787, .iaload, 0, 0, 0), (788, .invokevirtual 114, 199, 0, 1102), (791, .pop, 0, 0, 0), (792, .goto 791, 0, 0, 0)]
noncomputable def aS20 : AC := [(795, .aload_n 1, 0, 0, 0), (796, .invokevirtual 115, 81, 0, 1001), (799, .pop, 0, 0, 0), (800, .aload_n 2, 0, 0, 0), (801, .invokevirtual 118, 200, 0, 1101), (804, .pop, 0, 0, 0), (805, .goto 778, 0, 0, 0)]
noncomputable def aS21 : AC := [(808, .aload_n 1, 0, 0, 0), (809, .invokevirtual 119, 82, 0, 1001), (812, .pop, 0, 0, 0), (813, .aload_n 2, 0, 0, 0), (814, .invokevirtual 122, 205, 0, 1101), (817, .pop, 0, 0, 0), (818, .goto 765, 0, 0, 0)]
noncomputable def aS22 : AC := [(821, .aload_n 1, 0, 0, 0), (822, .aload_n 0, 0, 0, 0), (823, .iload 4, 0, 0, 0), (825, .iconst 1, 0, 0, 0), (826, .iadd, 0, 0, 0), (827, .iaload, 0, 0, 0), (828, .invokevirtual 123, 83, 0, 1002), (831, .pop, 0, 0, 0), (832, .aload_n 2, 0, 0, 0), (833, .aload_n 0, 0, 0, 0), (834, .iload 4, 0, 0, 0), (836, .iconst 1, 0, 0, 0), (837, .iadd, 0, 0, 0), (838, .iaload, 0, 0, 0), (839, .invokevirtual 126, 210, 0, 1102), (842, .pop, 0, 0, 0), (843, .goto 740, 0, 0, 0)]
noncomputable def aS23 : AC := [(846, .aload_n 1, 0, 0, 0), (847, .aload_n 0, 0, 0, 0), (848, .iload 4, 0, 0, 0), (850, .iconst 1, 0, 0, 0), (851, .iadd, 0, 0, 0), (852, .iaload, 0, 0, 0), (853, .invokevirtual 127, 84, 0, 1002), (856, .pop, 0, 0, 0), (857, .aload_n 2, 0, 0, 0), (858, .aload_n 0, 0, 0, 0), (859, .iload 4, 0, 0, 0), (861, .iconst 1, 0, 0, 0), (862, .iadd, 0, 0, 0), (863, .iaload, 0, 0, 0), (864, .invokevirtual 130, 211, 0, 1102), (867, .pop, 0, 0, 0), (868, .goto 715, 0, 0, 0)]
noncomputable def aS24 : AC := [(871, .aload_n 1, 0, 0, 0), (872, .aload_n 0, 0, 0, 0), (873, .iload 4, 0, 0, 0), (875, .iconst 1, 0, 0, 0), (876, .iadd, 0, 0, 0), (877, .iaload, 0, 0, 0), (878, .invokevirtual 131, 85, 0, 1002), (881, .pop, 0, 0, 0), (882, .aload_n 2, 0, 0, 0), (883, .aload_n 0, 0, 0, 0), (884, .iload 4, 0, 0, 0), (886, .iconst 1, 0, 0, 0), (887, .iadd, 0, 0, 0), (888, .iaload, 0, 0, 0), (889, .invokevirtual 134, 212, 0, 1102), (892, .pop, 0, 0, 0), (893, .goto 690, 0, 0, 0)]
noncomputable def aS25 : AC := [(896, .aload_n 1, 0, 0, 0), (897, .aload_n 0, 0, 0, 0), (898, .iload 4, 0, 0, 0), (900, .iconst 1, 0, 0, 0), (901, .iadd, 0, 0, 0), (902, .iaload, 0, 0, 0), (903, .invokevirtual 135, 86, 0, 1002), (906, .pop, 0, 0, 0), (907, .aload_n 2, 0, 0, 0), (908, .aload_n 0, 0, 0, 0), (909, .iload 4, 0, 0, 0), (911, .iconst 1, 0, 0, 0), (912, .iadd, 0, 0, 0), (913, .iaload, 0, 0, 0), (914, .invokevirtual 138, 214, 0, 1102), (917, .pop, 0, 0, 0), (918, .goto 665, 0, 0, 0)]
noncomputable def aS26 : AC := [(921, .aload_n 1, 0, 0, 0), (922, .aload_n 0, 0, 0, 0), (923, .iload 4, 0, 0, 0), (925, .iconst 1, 0, 0, 0), (926, .iadd, 0, 0, 0), (927, .iaload, 0, 0, 0), (928, .invokevirtual 139, 87, 0, 1002), (931, .pop, 0, 0, 0), (932, .aload_n 2, 0, 0, 0), (933, .aload_n 0, 0, 0, 0), (934, .iload 4, 0, 0, 0), (936, .iconst 1, 0, 0, 0), (937, .iadd, 0, 0, 0), (938, .iaload, 0, 0, 0), (939, .invokevirtual 142, 215, 0, 1102), (942, .pop, 0, 0, 0), (943, .goto 640, 0, 0, 0)]
noncomputable def aS27 : AC := [(946, .aload_n 1, 0, 0, 0), (947, .aload_n 0, 0, 0, 0), (948, .iload 4, 0, 0, 0), (950, .iconst 1, 0, 0, 0), (951, .iadd, 0, 0, 0), (952, .iaload, 0, 0, 0), (953, .invokevirtual 143, 88, 0, 1002), (956, .pop, 0, 0, 0), (957, .aload_n 2, 0, 0, 0), (958, .aload_n 0, 0, 0, 0), (959, .iload 4, 0, 0, 0), (961, .iconst 1, 0, 0, 0), (962, .iadd, 0, 0, 0), (963, .iaload, 0, 0, 0), (964, .invokevirtual 146, 216, 0, 1102), (967, .pop, 0, 0, 0), (968, .goto 615, 0, 0, 0)]
noncomputable def aS28 : AC := [(971, .aload_n 1, 0, 0, 0), (972, .aload_n 0, 0, 0, 0), (973, .iload 4, 0, 0, 0), (975, .iconst 1, 0, 0, 0), (976, .iadd, 0, 0, 0), (977, .iaload, 0, 0, 0), (978, .invokevirtual 147, 89, 0, 1002), (981, .pop, 0, 0, 0), (982, .aload_n 2, 0, 0, 0), (983, .aload_n 0, 0, 0, 0), (984, .iload 4, 0, 0, 0), (986, .iconst 1, 0, 0, 0), (987, .iadd, 0, 0, 0), (988, .iaload, 0, 0, 0), (989, .invokevirtual 150, 218, 0, 1102), (992, .pop, 0, 0, 0), (993, .goto 590, 0, 0, 0)]
noncomputable def aS29 : AC := [(996, .aload_n 1, 0, 0, 0), (997, .aload_n 0, 0, 0, 0), (998, .iload 4, 0, 0, 0), (1000, .iconst 1, 0, 0, 0), (1001, .iadd, 0, 0, 0), (1002, .iaload, 0, 0, 0), (1003, .invokevirtual 151, 90, 0, 1002), (1006, .pop, 0, 0, 0), (1007, .aload_n 2, 0, 0, 0), (1008, .aload_n 0, 0, 0, 0), (1009, .iload 4, 0, 0, 0), (1011, .iconst 1, 0, 0, 0), (1012, .iadd, 0, 0, 0), (1013, .iaload, 0, 0, 0), (1014, .invokevirtual 154, 219, 0, 1102), (1017, .pop, 0, 0, 0), (1018, .goto 565, 0, 0, 0)]
noncomputable def aS30 : AC := [(1021, .aload_n 1, 0, 0, 0), (1022, .aload_n 0, 0, 0, 0), (1023, .iload 4, 0, 0, 0), (1025, .iconst 1, 0, 0, 0), (1026, .iadd, 0, 0, 0), (1027, .iaload, 0, 0, 0), (1028, .aload_n 0, 0, 0, 0), (1029, .iload 4, 0, 0, 0), (1031, .iconst 2, 0, 0, 0), (1032, .iadd, 0, 0, 0), (1033, .iaload, 0, 0, 0), (1034, .invokevirtual 155, 91, 0, 1003), (1037, .pop, 0, 0, 0), (1038, .aload_n 2, 0, 0, 0), (1039, .aload_n 0, 0, 0, 0), (1040, .iload 4, 0, 0, 0), (1042, .iconst 1, 0, 0, 0), (1043, .iadd, 0, 0, 0), (1044, .iaload, 0, 0, 0), (1045, .aload_n 0, 0, 0, 0), (1046, .iload 4, 0, 0, 0), (1048, .iconst 2, 0, 0, 0), (1049, .iadd, 0, 0, 0), (1050, .iaload, 0, 0, 0), (1051, .invokevirtual 158, 221, 0, 1103), (1054, .pop, 0, 0, 0), (1055, .goto 528, 0, 0, 0)]
noncomputable def aS31 : AC := [(1058, .aload_n 1, 0, 0, 0), (1059, .aload_n 0, 0, 0, 0), (1060, .iload 4, 0, 0, 0), (1062, .iconst 1, 0, 0, 0), (1063, .iadd, 0, 0, 0), (1064, .iaload, 0, 0, 0), (1065, .aload_n 0, 0, 0, 0), (1066, .iload 4, 0, 0, 0), (1068, .iconst 2, 0, 0, 0), (1069, .iadd, 0, 0, 0), (1070, .iaload, 0, 0, 0), (1071, .invokevirtual 159, 92, 0, 1003), (1074, .pop, 0, 0, 0), (1075, .aload_n 2, 0, 0, 0), (1076, .aload_n 0, 0, 0, 0), (1077, .iload 4, 0, 0, 0), (1079, .iconst 1, 0, 0, 0), (1080, .iadd, 0, 0, 0), (1081, .iaload, 0, 0, 0), (1082, .aload_n 0, 0, 0, 0), (1083, .iload 4, 0, 0, 0), (1085, .iconst 2, 0, 0, 0), (1086, .iadd, 0, 0, 0), (1087, .iaload, 0, 0, 0), (1088, .invokevirtual 162, 222, 0, 1103), (1091, .pop, 0, 0, 0), (1092, .goto 491, 0, 0, 0)]
noncomputable def aS32 : AC := [(1095, .aload_n 1, 0, 0, 0), (1096, .aload_n 0, 0, 0, 0), (1097, .iload 4, 0, 0, 0), (1099, .iconst 1, 0, 0, 0), (1100, .iadd, 0, 0, 0), (1101, .iaload, 0, 0, 0), (1102, .invokevirtual 163, 93, 0, 1002), (1105, .pop, 0, 0, 0), (1106, .aload_n 2, 0, 0, 0), (1107, .aload_n 0, 0, 0, 0), (1108, .iload 4, 0, 0, 0), (1110, .iconst 1, 0, 0, 0), (1111, .iadd, 0, 0, 0), (1112, .iaload, 0, 0, 0), (1113, .invokevirtual 166, 224, 0, 1102), (1116, .pop, 0, 0, 0), (1117, .goto 466, 0, 0, 0)]
noncomputable def aS33 : AC := [(1120, .aload_n 1, 0, 0, 0), (1121, .aload_n 0, 0, 0, 0), (1122, .iload 4, 0, 0, 0), (1124, .iconst 1, 0, 0, 0), (1125, .iadd, 0, 0, 0), (1126, .iaload, 0, 0, 0), (1127, .invokevirtual 167, 94, 0, 1002), (1130, .pop, 0, 0, 0), (1131, .aload_n 2, 0, 0, 0), (1132, .aload_n 0, 0, 0, 0), (1133, .iload 4, 0, 0, 0), (1135, .iconst 1, 0, 0, 0), (1136, .iadd, 0, 0, 0), (1137, .iaload, 0, 0, 0), (1138, .invokevirtual 170, 228, 0, 1102), (1141, .pop, 0, 0, 0), (1142, .goto 441, 0, 0, 0)]
noncomputable def aS34 : AC := [(1145, .aload_n 1, 0, 0, 0), (1146, .aload_n 0, 0, 0, 0), (1147, .iload 4, 0, 0, 0), (1149, .iconst 1, 0, 0, 0), (1150, .iadd, 0, 0, 0), (1151, .iaload, 0, 0, 0), (1152, .invokevirtual 171, 95, 0, 1002), (1155, .pop, 0, 0, 0), (1156, .aload_n 2, 0, 0, 0), (1157, .aload_n 0, 0, 0, 0), (1158, .iload 4, 0, 0, 0), (1160, .iconst 1, 0, 0, 0), (1161, .iadd, 0, 0, 0), (1162, .iaload, 0, 0, 0), (1163, .invokevirtual 174, 229, 0, 1102), (1166, .pop, 0, 0, 0), (1167, .goto 416, 0, 0, 0)]
noncomputable def aS35 : AC := [(1170, .aload_n 1, 0, 0, 0), (1171, .aload_n 0, 0, 0, 0), (1172, .iload 4, 0, 0, 0), (1174, .iconst 1, 0, 0, 0), (1175, .iadd, 0, 0, 0), (1176, .iaload, 0, 0, 0), (1177, .aload_n 0, 0, 0, 0), (1178, .iload 4, 0, 0, 0), (1180, .iconst 2, 0, 0, 0), (1181, .iadd, 0, 0, 0), (1182, .iaload, 0, 0, 0), (1183, .invokevirtual 175, 96, 0, 1003), (1186, .pop, 0, 0, 0), (1187, .aload_n 2, 0, 0, 0), (1188, .aload_n 0, 0, 0, 0), (1189, .iload 4, 0, 0, 0), (1191, .iconst 1, 0, 0, 0), (1192, .iadd, 0, 0, 0), (1193, .iaload, 0, 0, 0), (1194, .aload_n 0, 0, 0, 0), (1195, .iload 4, 0, 0, 0), (1197, .iconst 2, 0, 0, 0), (1198, .iadd, 0, 0, 0), (1199, .iaload, 0, 0, 0), (1200, .invokevirtual 178, 231, 0, 1103), (1203, .pop, 0, 0, 0), (1204, .goto 379, 0, 0, 0)]
noncomputable def aS36 : AC := [(1207, .aload_n 1, 0, 0, 0), (1208, .invokevirtual 179, 97, 0, 1001), (1211, .pop, 0, 0, 0), (1212, .aload_n 2, 0, 0, 0), (1213, .invokevirtual 182, 232, 0, 1101), (1216, .pop, 0, 0, 0), (1217, .goto 366, 0, 0, 0)]
noncomputable def aS37 : AC := [(1220, .aload_n 1, 0, 0, 0), (1221, .invokevirtual 183, 98, 0, 1001), (1224, .pop, 0, 0, 0), (1225, .aload_n 2, 0, 0, 0), (1226, .invokevirtual 186, 236, 0, 1101), (1229, .pop, 0, 0, 0), (1230, .goto 353, 0, 0, 0)]
noncomputable def aS38 : AC := [(1233, .aload_n 1, 0, 0, 0), (1234, .invokevirtual 187, 99, 0, 1001), (1237, .pop, 0, 0, 0), (1238, .aload_n 2, 0, 0, 0), (1239, .invokevirtual 190, 237, 0, 1101), (1242, .pop, 0, 0, 0), (1243, .goto 340, 0, 0, 0)]
noncomputable def aS39 : AC := [(1246, .aload_n 1, 0, 0, 0), (1247, .aload_n 0, 0, 0, 0), (1248, .iload 4, 0, 0, 0), (1250, .iconst 1, 0, 0, 0), (1251, .iadd, 0, 0, 0), (1252, .iaload, 0, 0, 0), (1253, .aload_n 0, 0, 0, 0), (1254, .iload 4, 0, 0, 0), (1256, .iconst 2, 0, 0, 0), (1257, .iadd, 0, 0, 0), (1258, .iaload, 0, 0, 0), (1259, .invokevirtual 191, 100, 0, 1003), (1262, .pop, 0, 0, 0), (1263, .aload_n 2, 0, 0, 0), (1264, .aload_n 0, 0, 0, 0), (1265, .iload 4, 0, 0, 0), (1267, .iconst 1, 0, 0, 0), (1268, .iadd, 0, 0, 0), (1269, .iaload, 0, 0, 0), (1270, .aload_n 0, 0, 0, 0), (1271, .iload 4, 0, 0, 0), (1273, .iconst 2, 0, 0, 0), (1274, .iadd, 0, 0, 0), (1275, .iaload, 0, 0, 0), (1276, .invokevirtual 194, 241, 0, 1103), (1279, .pop, 0, 0, 0), (1280, .goto 303, 0, 0, 0)]
noncomputable def aS40 : AC := [(1283, .aload_n 1, 0, 0, 0), (1284, .aload_n 0, 0, 0, 0), (1285, .iload 4, 0, 0, 0), (1287, .iconst 1, 0, 0, 0), (1288, .iadd, 0, 0, 0), (1289, .iaload, 0, 0, 0), (1290, .invokevirtual 195, 101, 0, 1002), (1293, .pop, 0, 0, 0), (1294, .aload_n 2, 0, 0, 0), (1295, .aload_n 0, 0, 0, 0), (1296, .iload 4, 0, 0, 0), (1298, .iconst 1, 0, 0, 0), (1299, .iadd, 0, 0, 0), (1300, .iaload, 0, 0, 0), (1301, .invokevirtual 198, 242, 0, 1102), (1304, .pop, 0, 0, 0), (1305, .goto 278, 0, 0, 0)]
noncomputable def aS41 : AC := [(1308, .aload_n 1, 0, 0, 0), (1309, .aload_n 0, 0, 0, 0), (1310, .iload 4, 0, 0, 0), (1312, .iconst 1, 0, 0, 0), (1313, .iadd, 0, 0, 0), (1314, .iaload, 0, 0, 0), (1315, .aload_n 0, 0, 0, 0), (1316, .iload 4, 0, 0, 0), (1318, .iconst 2, 0, 0, 0), (1319, .iadd, 0, 0, 0), (1320, .iaload, 0, 0, 0), (1321, .invokevirtual 199, 102, 0, 1003), (1324, .pop, 0, 0, 0), (1325, .aload_n 2, 0, 0, 0), (1326, .aload_n 0, 0, 0, 0), (1327, .iload 4, 0, 0, 0), (1329, .iconst 1, 0, 0, 0), (1330, .iadd, 0, 0, 0), (1331, .iaload, 0, 0, 0), (1332, .aload_n 0, 0, 0, 0), (1333, .iload 4, 0, 0, 0), (1335, .iconst 2, 0, 0, 0), (1336, .iadd, 0, 0, 0), (1337, .iaload, 0, 0, 0), (1338, .invokevirtual 202, 243, 0, 1103), (1341, .pop, 0, 0, 0), (1342, .goto 241, 0, 0, 0)]
noncomputable def aS42 : AC := [(1345, .aload_n 1, 0, 0, 0), (1346, .aload_n 0, 0, 0, 0), (1347, .iload 4, 0, 0, 0), (1349, .iconst 1, 0, 0, 0), (1350, .iadd, 0, 0, 0), (1351, .iaload, 0, 0, 0), (1352, .aload_n 0, 0, 0, 0), (1353, .iload 4, 0, 0, 0), (1355, .iconst 2, 0, 0, 0), (1356, .iadd, 0, 0, 0), (1357, .iaload, 0, 0, 0), (1358, .aload_n 0, 0, 0, 0), (1359, .iload 4, 0, 0, 0), (1361, .iconst 3, 0, 0, 0), (1362, .iadd, 0, 0, 0), (1363, .iaload, 0, 0, 0), (1364, .invokevirtual 203, 103, 0, 1004), (1367, .pop, 0, 0, 0), (1368, .aload_n 2, 0, 0, 0), (1369, .aload_n 0, 0, 0, 0), (1370, .iload 4, 0, 0, 0), (1372, .iconst 1, 0, 0, 0), (1373, .iadd, 0, 0, 0), (1374, .iaload, 0, 0, 0), (1375, .aload_n 0, 0, 0, 0), (1376, .iload 4, 0, 0, 0), (1378, .iconst 2, 0, 0, 0), (1379, .iadd, 0, 0, 0), (1380, .iaload, 0, 0, 0), (1381, .aload_n 0, 0, 0, 0), (1382, .iload 4, 0, 0, 0), (1384, .iconst 3, 0, 0, 0), (1385, .iadd, 0, 0, 0), (1386, .iaload, 0, 0, 0), (1387, .invokevirtual 206, 246, 0, 1104), (1390, .pop, 0, 0, 0), (1391, .goto 192, 0, 0, 0)]
noncomputable def aS43 : AC := [(1394, .aload_n 1, 0, 0, 0), (1395, .aload_n 0, 0, 0, 0), (1396, .iload 4, 0, 0, 0), (1398, .iconst 1, 0, 0, 0), (1399, .iadd, 0, 0, 0), (1400, .iaload, 0, 0, 0), (1401, .aload_n 0, 0, 0, 0), (1402, .iload 4, 0, 0, 0), (1404, .iconst 2, 0, 0, 0), (1405, .iadd, 0, 0, 0), (1406, .iaload, 0, 0, 0), (1407, .aload_n 0, 0, 0, 0), (1408, .iload 4, 0, 0, 0), (1410, .iconst 3, 0, 0, 0), (1411, .iadd, 0, 0, 0), (1412, .iaload, 0, 0, 0), (1413, .invokevirtual 207, 104, 0, 1004), (1416, .pop, 0, 0, 0), (1417, .aload_n 2, 0, 0, 0), (1418, .aload_n 0, 0, 0, 0), (1419, .iload 4, 0, 0, 0), (1421, .iconst 1, 0, 0, 0), (1422, .iadd, 0, 0, 0), (1423, .iaload, 0, 0, 0), (1424, .aload_n 0, 0, 0, 0), (1425, .iload 4, 0, 0, 0), (1427, .iconst 2, 0, 0, 0), (1428, .iadd, 0, 0, 0), (1429, .iaload, 0, 0, 0), (1430, .aload_n 0, 0, 0, 0), (1431, .iload 4, 0, 0, 0), (1433, .iconst 3, 0, 0, 0), (1434, .iadd, 0, 0, 0), (1435, .iaload, 0, 0, 0), (1436, .invokevirtual 210, 247, 0, 1104), (1439, .pop, 0, 0, 0), (1440, .goto 143, 0, 0, 0)]
noncomputable def aS44 : AC := [(1443, .aload_n 1, 0, 0, 0), (1444, .aload_n 0, 0, 0, 0), (1445, .iload 4, 0, 0, 0), (1447, .iconst 1, 0, 0, 0), (1448, .iadd, 0, 0, 0), (1449, .iaload, 0, 0, 0), (1450, .aload_n 0, 0, 0, 0), (1451, .iload 4, 0, 0, 0), (1453, .iconst 2, 0, 0, 0), (1454, .iadd, 0, 0, 0), (1455, .iaload, 0, 0, 0), (1456, .invokevirtual 211, 105, 0, 1003), (1459, .pop, 0, 0, 0), (1460, .aload_n 2, 0, 0, 0), (1461, .aload_n 0, 0, 0, 0), (1462, .iload 4, 0, 0, 0), (1464, .iconst 1, 0, 0, 0), (1465, .iadd, 0, 0, 0), (1466, .iaload, 0, 0, 0), (1467, .aload_n 0, 0, 0, 0), (1468, .iload 4, 0, 0, 0), (1470, .iconst 2, 0, 0, 0), (1471, .iadd, 0, 0, 0), (1472, .iaload, 0, 0, 0), (1473, .invokevirtual 214, 248, 0, 1103), (1476, .pop, 0, 0, 0), (1477, .goto 106, 0, 0, 0)]
noncomputable def aS45 : AC := [(1480, .aload_n 1, 0, 0, 0), (1481, .aload_n 0, 0, 0, 0), (1482, .iload 4, 0, 0, 0), (1484, .iconst 1, 0, 0, 0), (1485, .iadd, 0, 0, 0), (1486, .iaload, 0, 0, 0), (1487, .invokevirtual 215, 106, 0, 1002), (1490, .pop, 0, 0, 0), (1491, .aload_n 2, 0, 0, 0), (1492, .aload_n 0, 0, 0, 0), (1493, .iload 4, 0, 0, 0), (1495, .iconst 1, 0, 0, 0), (1496, .iadd, 0, 0, 0), (1497, .iaload, 0, 0, 0), (1498, .invokevirtual 218, 249, 0, 1102), (1501, .pop, 0, 0, 0), (1502, .goto 81, 0, 0, 0)]
noncomputable def aS46 : AC := [(1505, .aload_n 1, 0, 0, 0), (1506, .aload_n 0, 0, 0, 0), (1507, .iload 4, 0, 0, 0), (1509, .iconst 1, 0, 0, 0), (1510, .iadd, 0, 0, 0), (1511, .iaload, 0, 0, 0), (1512, .invokevirtual 219, 107, 0, 1002), (1515, .pop, 0, 0, 0), (1516, .aload_n 2, 0, 0, 0), (1517, .aload_n 0, 0, 0, 0), (1518, .iload 4, 0, 0, 0), (1520, .iconst 1, 0, 0, 0), (1521, .iadd, 0, 0, 0), (1522, .iaload, 0, 0, 0), (1523, .invokevirtual 222, 250, 0, 1102), (1526, .pop, 0, 0, 0), (1527, .goto 56, 0, 0, 0)]
noncomputable def aS47 : AC := [(1530, .aload_n 1, 0, 0, 0), (1531, .aload_n 0, 0, 0, 0), (1532, .iload 4, 0, 0, 0), (1534, .iconst 1, 0, 0, 0), (1535, .iadd, 0, 0, 0), (1536, .iaload, 0, 0, 0), (1537, .invokevirtual 223, 108, 0, 1002), (1540, .pop, 0, 0, 0), (1541, .aload_n 2, 0, 0, 0), (1542, .aload_n 0, 0, 0, 0), (1543, .iload 4, 0, 0, 0), (1545, .iconst 1, 0, 0, 0), (1546, .iadd, 0, 0, 0), (1547, .iaload, 0, 0, 0), (1548, .invokevirtual 226, 251, 0, 1102), (1551, .pop, 0, 0, 0), (1552, .goto 31, 0, 0, 0)]
noncomputable def aS48 : AC := [(1555, .aload_n 1, 0, 0, 0), (1556, .aload_n 0, 0, 0, 0), (1557, .iload 4, 0, 0, 0), (1559, .iconst 1, 0, 0, 0), (1560, .iadd, 0, 0, 0), (1561, .iaload, 0, 0, 0), (1562, .aload_n 3, 0, 0, 0), (1566, .istore 5, 0, 0, 0), (1568, .aload_n 2, 0, 0, 0), (1569, .aload_n 0, 0, 0, 0), (1570, .iload 4, 0, 0, 0), (1572, .iconst 1, 0, 0, 0), (1573, .iadd, 0, 0, 0), (1574, .iaload, 0, 0, 0), (1575, .invokevirtual 230, 252, 0, 1102), (1578, .lstore 6, 0, 0, 0), (1580, .goto 3, 0, 0, 0)]
noncomputable def aS49 : AC := [(1583, .iinc 4 5, 0, 0, 0), (1586, .goto (-1563), 0, 0, 0), (1589, .iconst 1, 0, 0, 0), (1590, .ireturn, 0, 0, 0)]
noncomputable def lawS : List AC := [aS0, aS1, aS2, aS3, aS4, aS5, aS6, aS7, aS8, aS9, aS10, aS11, aS12, aS13, aS14, aS15, aS16, aS17, aS18, aS19, aS20, aS21, aS22, aS23, aS24, aS25, aS26, aS27, aS28, aS29, aS30, aS31, aS32, aS33, aS34, aS35, aS36, aS37, aS38, aS39, aS40, aS41, aS42, aS43, aS44, aS45, aS46, aS47, aS48, aS49]
noncomputable def ac9L_law : AC := lawS.flatten
set_option maxRecDepth 100000 in
theorem okS0 : acok (x, code, 8, (some .boolean), aS0, 12, 0) := acokB_ok (hs := [[1025, 1026, 1001], [], [1027, 1028], [], [5031, 5032, 1013], [], [5033, 5034], [], [], [1080], [], [], [], [], [], [], [], [], [], [], [], [], [], [], [205]]) (by decide +kernel)
set_option maxRecDepth 100000 in
theorem okS1 : acok (x, code, 8, (some .boolean), aS1, 12, 0) := acokB_ok (hs := [[], [], [], [], [], [], [2118, 2119, 2120], [], [], [], [], [], [], [], [5201, 5202, 5203]]) (by decide +kernel)
set_option maxRecDepth 100000 in
theorem okS2 : acok (x, code, 8, (some .boolean), aS2, 12, 0) := acokB_ok (hs := [[], [], [], [], [], [], [2126, 2127, 2128], [], [], [], [], [], [], [], [5205, 5206, 5207]]) (by decide +kernel)
set_option maxRecDepth 100000 in
theorem okS3 : acok (x, code, 8, (some .boolean), aS3, 12, 0) := acokB_ok (hs := [[], [2130, 2131, 2132], [], [], [5212, 5213, 5214]]) (by decide +kernel)
set_option maxRecDepth 100000 in
theorem okS4 : acok (x, code, 8, (some .boolean), aS4, 12, 0) := acokB_ok (hs := [[], [2173, 2174, 2175], [], [], [6006, 6007, 6008]]) (by decide +kernel)
set_option maxRecDepth 100000 in
theorem okS5 : acok (x, code, 8, (some .boolean), aS5, 12, 0) := acokB_ok (hs := [[], [2186, 2187, 2188], [], [], [6072, 6073, 6074]]) (by decide +kernel)
set_option maxRecDepth 100000 in
theorem okS6 : acok (x, code, 8, (some .boolean), aS6, 12, 0) := acokB_ok (hs := [[], [2202, 2203, 2204], [], [], [6080, 6081, 6082]]) (by decide +kernel)
set_option maxRecDepth 100000 in
theorem okS7 : acok (x, code, 8, (some .boolean), aS7, 12, 0) := acokB_ok (hs := [[], [], [], [], [], [], [], [], [], [], [], [], [], [], [], [], [], [], [], [], [], [], [], [], [6100, 6101, 6102]]) (by decide +kernel)
set_option maxRecDepth 100000 in
theorem okS8 : acok (x, code, 8, (some .boolean), aS8, 12, 0) := acokB_ok (hs := [[], [], [], [], [], [], [], [], [], [], [], [], [], [], [], [], [], [], [], [], [], [], [], [], [6108, 6109, 6110]]) (by decide +kernel)
set_option maxRecDepth 100000 in
theorem okS9 : acok (x, code, 8, (some .boolean), aS9, 12, 0) := acokB_ok (hs := [[], [], [], [], [], [], [], [], [], [], [], [], [], [], [], [], [], [], [], [], [], [], [], [], [6112, 6113, 6114]]) (by decide +kernel)
set_option maxRecDepth 100000 in
theorem okS10 : acok (x, code, 8, (some .boolean), aS10, 12, 0) := acokB_ok (hs := [[], [], [], [], [], [], [], [], [], [], [], [], [], [], [], [], [], [], [], [], [], [], [], [], [6121, 6122, 6123], [], [], [5197, 5198, 5199]]) (by decide +kernel)
set_option maxRecDepth 100000 in
theorem okS11 : acok (x, code, 8, (some .boolean), aS11, 12, 0) := acokB_ok (hs := [[], [], [], [], [], [], [], [], [], [], [], [], [], [], [], [], [], [], [], [], [], [2238, 2239, 3000], [], [], [], [], [], [], [], [], [], [], [], [], [], [], [], [], [], [], [], [], [], [], [6129, 6130, 6131]]) (by decide +kernel)
set_option maxRecDepth 100000 in
theorem okS12 : acok (x, code, 8, (some .boolean), aS12, 12, 0) := acokB_ok (hs := [[], [3012, 3013, 3014], [], [], [6139, 6140, 6141]]) (by decide +kernel)
set_option maxRecDepth 100000 in
theorem okS13 : acok (x, code, 8, (some .boolean), aS13, 12, 0) := acokB_ok (hs := [[], [], [], [], [], [], [3039, 3040, 3041], [], [], [], [], [], [], [], [6154, 6155, 6156]]) (by decide +kernel)
set_option maxRecDepth 100000 in
theorem okS14 : acok (x, code, 8, (some .boolean), aS14, 12, 0) := acokB_ok (hs := [[], [], [], [], [], [], [], [], [], [], [], [], [], [], [], [], [3070, 3071, 3072], [], [], [], [], [], [], [], [], [], [], [], [], [], [], [], [], [], [6179, 6180, 6181]]) (by decide +kernel)
set_option maxRecDepth 100000 in
theorem okS15 : acok (x, code, 8, (some .boolean), aS15, 12, 0) := acokB_ok (hs := [[], [], [], [], [], [], [], [], [], [], [], [3082, 3083, 3084], [], [], [], [], [], [], [], [], [], [], [], [], [6188, 6189, 6190]]) (by decide +kernel)
set_option maxRecDepth 100000 in
theorem okS16 : acok (x, code, 8, (some .boolean), aS16, 12, 0) := acokB_ok (hs := [[], [], [], [], [], [], [3086, 3087, 3088], [], [], [], [], [], [], [], [6196, 6197, 6198]]) (by decide +kernel)
set_option maxRecDepth 100000 in
theorem okS17 : acok (x, code, 8, (some .boolean), aS17, 12, 0) := acokB_ok (hs := [[], [3117, 3118, 3119], [], [], [6223, 6224, 6225]]) (by decide +kernel)
set_option maxRecDepth 100000 in
theorem okS18 : acok (x, code, 8, (some .boolean), aS18, 12, 0) := acokB_ok (hs := [[], [3132, 3133, 3134], [], [], [6135, 6136, 6137]]) (by decide +kernel)
set_option maxRecDepth 100000 in
theorem okS19 : acok (x, code, 8, (some .boolean), aS19, 12, 0) := acokB_ok (hs := [[], [], [], [], [], [], [3140, 3141, 3142], [], [], [], [], [], [], [], [6236, 6237, 6238]]) (by decide +kernel)
set_option maxRecDepth 100000 in
theorem okS20 : acok (x, code, 8, (some .boolean), aS20, 12, 0) := acokB_ok (hs := [[], [3152, 3153, 3154], [], [], [7004, 7005, 7006]]) (by decide +kernel)
set_option maxRecDepth 100000 in
theorem okS21 : acok (x, code, 8, (some .boolean), aS21, 12, 0) := acokB_ok (hs := [[], [3156, 3157, 3158], [], [], [7008, 7009, 7010]]) (by decide +kernel)
set_option maxRecDepth 100000 in
theorem okS22 : acok (x, code, 8, (some .boolean), aS22, 12, 0) := acokB_ok (hs := [[], [], [], [], [], [], [3180, 3181, 3182], [], [], [], [], [], [], [], [7030, 7031, 7032]]) (by decide +kernel)
set_option maxRecDepth 100000 in
theorem okS23 : acok (x, code, 8, (some .boolean), aS23, 12, 0) := acokB_ok (hs := [[], [], [], [], [], [], [3214, 3215, 3216], [], [], [], [], [], [], [], [7051, 7052, 7053]]) (by decide +kernel)
set_option maxRecDepth 100000 in
theorem okS24 : acok (x, code, 8, (some .boolean), aS24, 12, 0) := acokB_ok (hs := [[], [], [], [], [], [], [3218, 3219, 3220], [], [], [], [], [], [], [], [7055, 7056, 7057]]) (by decide +kernel)
set_option maxRecDepth 100000 in
theorem okS25 : acok (x, code, 8, (some .boolean), aS25, 12, 0) := acokB_ok (hs := [[], [], [], [], [], [], [3228, 3229, 3230], [], [], [], [], [], [], [], [7060, 7061, 7062]]) (by decide +kernel)
set_option maxRecDepth 100000 in
theorem okS26 : acok (x, code, 8, (some .boolean), aS26, 12, 0) := acokB_ok (hs := [[], [], [], [], [], [], [4003, 4004, 4005], [], [], [], [], [], [], [], [7070, 7071, 7072]]) (by decide +kernel)
set_option maxRecDepth 100000 in
theorem okS27 : acok (x, code, 8, (some .boolean), aS27, 12, 0) := acokB_ok (hs := [[], [], [], [], [], [], [4011, 4012, 4013], [], [], [], [], [], [], [], [7074, 7075, 7076]]) (by decide +kernel)
set_option maxRecDepth 100000 in
theorem okS28 : acok (x, code, 8, (some .boolean), aS28, 12, 0) := acokB_ok (hs := [[], [], [], [], [], [], [4015, 4016, 4017], [], [], [], [], [], [], [], [7079, 7080, 7081]]) (by decide +kernel)
set_option maxRecDepth 100000 in
theorem okS29 : acok (x, code, 8, (some .boolean), aS29, 12, 0) := acokB_ok (hs := [[], [], [], [], [], [], [4019, 4020, 4021], [], [], [], [], [], [], [], [7088, 7089, 7090]]) (by decide +kernel)
set_option maxRecDepth 100000 in
theorem okS30 : acok (x, code, 8, (some .boolean), aS30, 12, 0) := acokB_ok (hs := [[], [], [], [], [], [], [], [], [], [], [], [4023, 4024, 4025], [], [], [], [], [], [], [], [], [], [], [], [], [7093, 7094, 7095]]) (by decide +kernel)
set_option maxRecDepth 100000 in
theorem okS31 : acok (x, code, 8, (some .boolean), aS31, 12, 0) := acokB_ok (hs := [[], [], [], [], [], [], [], [], [], [], [], [4039, 4040, 4041], [], [], [], [], [], [], [], [], [], [], [], [], [7109, 7110, 7111]]) (by decide +kernel)
set_option maxRecDepth 100000 in
theorem okS32 : acok (x, code, 8, (some .boolean), aS32, 12, 0) := acokB_ok (hs := [[], [], [], [], [], [], [4044, 4045, 4046], [], [], [], [], [], [], [], [7114, 7115, 7116]]) (by decide +kernel)
set_option maxRecDepth 100000 in
theorem okS33 : acok (x, code, 8, (some .boolean), aS33, 12, 0) := acokB_ok (hs := [[], [], [], [], [], [], [4053, 4054, 4055], [], [], [], [], [], [], [], [7123, 7124, 7125]]) (by decide +kernel)
set_option maxRecDepth 100000 in
theorem okS34 : acok (x, code, 8, (some .boolean), aS34, 12, 0) := acokB_ok (hs := [[], [], [], [], [], [], [4070, 4071, 4072], [], [], [], [], [], [], [], [7140, 7141, 7142]]) (by decide +kernel)
set_option maxRecDepth 100000 in
theorem okS35 : acok (x, code, 8, (some .boolean), aS35, 12, 0) := acokB_ok (hs := [[], [], [], [], [], [], [], [], [], [], [], [4078, 4079, 4080], [], [], [], [], [], [], [], [], [], [], [], [], [7144, 7145, 7146]]) (by decide +kernel)
set_option maxRecDepth 100000 in
theorem okS36 : acok (x, code, 8, (some .boolean), aS36, 12, 0) := acokB_ok (hs := [[], [4082, 4083, 4084], [], [], [7154, 7155, 7156]]) (by decide +kernel)
set_option maxRecDepth 100000 in
theorem okS37 : acok (x, code, 8, (some .boolean), aS37, 12, 0) := acokB_ok (hs := [[], [4090, 4091, 4092], [], [], [7158, 7159, 7160]]) (by decide +kernel)
set_option maxRecDepth 100000 in
theorem okS38 : acok (x, code, 8, (some .boolean), aS38, 12, 0) := acokB_ok (hs := [[], [4113, 4114, 4115], [], [], [7174, 7175, 7176]]) (by decide +kernel)
set_option maxRecDepth 100000 in
theorem okS39 : acok (x, code, 8, (some .boolean), aS39, 12, 0) := acokB_ok (hs := [[], [], [], [], [], [], [], [], [], [], [], [4122, 4123, 4124], [], [], [], [], [], [], [], [], [], [], [], [], [7178, 7179, 7180]]) (by decide +kernel)
set_option maxRecDepth 100000 in
theorem okS40 : acok (x, code, 8, (some .boolean), aS40, 12, 0) := acokB_ok (hs := [[], [], [], [], [], [], [4135, 4136, 4137], [], [], [], [], [], [], [], [7195, 7196, 7197]]) (by decide +kernel)
set_option maxRecDepth 100000 in
theorem okS41 : acok (x, code, 8, (some .boolean), aS41, 12, 0) := acokB_ok (hs := [[], [], [], [], [], [], [], [], [], [], [], [4139, 4140, 4141], [], [], [], [], [], [], [], [], [], [], [], [], [7199, 7200, 7201]]) (by decide +kernel)
set_option maxRecDepth 100000 in
theorem okS42 : acok (x, code, 8, (some .boolean), aS42, 12, 0) := acokB_ok (hs := [[], [], [], [], [], [], [], [], [], [], [], [], [], [], [], [], [4143, 4144, 4145], [], [], [], [], [], [], [], [], [], [], [], [], [], [], [], [], [], [7203, 7204, 7205]]) (by decide +kernel)
set_option maxRecDepth 100000 in
theorem okS43 : acok (x, code, 8, (some .boolean), aS43, 12, 0) := acokB_ok (hs := [[], [], [], [], [], [], [], [], [], [], [], [], [], [], [], [], [4153, 4154, 4155], [], [], [], [], [], [], [], [], [], [], [], [], [], [], [], [], [], [7215, 7216, 7217]]) (by decide +kernel)
set_option maxRecDepth 100000 in
theorem okS44 : acok (x, code, 8, (some .boolean), aS44, 12, 0) := acokB_ok (hs := [[], [], [], [], [], [], [], [], [], [], [], [4157, 4158, 4159], [], [], [], [], [], [], [], [], [], [], [], [], [7219, 7220, 7221]]) (by decide +kernel)
set_option maxRecDepth 100000 in
theorem okS45 : acok (x, code, 8, (some .boolean), aS45, 12, 0) := acokB_ok (hs := [[], [], [], [], [], [], [4162, 4163, 4164], [], [], [], [], [], [], [], [7224, 7225, 7226]]) (by decide +kernel)
set_option maxRecDepth 100000 in
theorem okS46 : acok (x, code, 8, (some .boolean), aS46, 12, 0) := acokB_ok (hs := [[], [], [], [], [], [], [4166, 4167, 4168], [], [], [], [], [], [], [], [7228, 7229, 7230]]) (by decide +kernel)
set_option maxRecDepth 100000 in
theorem okS47 : acok (x, code, 8, (some .boolean), aS47, 12, 0) := acokB_ok (hs := [[], [], [], [], [], [], [4170, 4171, 4172], [], [], [], [], [], [], [], [7232, 7233, 7234]]) (by decide +kernel)
set_option maxRecDepth 100000 in
theorem okS48 : acok (x, code, 8, (some .boolean), aS48, 12, 0) := acokB_ok (hs := [[], [], [], [], [], [], [], [], [], [], [], [], [], [], [7236, 7237, 7238]]) (by decide +kernel)
set_option maxRecDepth 100000 in
theorem okS49 : acok (x, code, 8, (some .boolean), aS49, 12, 0) := acokB_ok (hs := []) (by decide +kernel)
theorem okS : ∀ S ∈ lawS, acok (x, code, 8, (some .boolean), S, 12, 0) := List.forall_mem_cons.mpr ⟨okS0, List.forall_mem_cons.mpr ⟨okS1, List.forall_mem_cons.mpr ⟨okS2, List.forall_mem_cons.mpr ⟨okS3, List.forall_mem_cons.mpr ⟨okS4, List.forall_mem_cons.mpr ⟨okS5, List.forall_mem_cons.mpr ⟨okS6, List.forall_mem_cons.mpr ⟨okS7, List.forall_mem_cons.mpr ⟨okS8, List.forall_mem_cons.mpr ⟨okS9, List.forall_mem_cons.mpr ⟨okS10, List.forall_mem_cons.mpr ⟨okS11, List.forall_mem_cons.mpr ⟨okS12, List.forall_mem_cons.mpr ⟨okS13, List.forall_mem_cons.mpr ⟨okS14, List.forall_mem_cons.mpr ⟨okS15, List.forall_mem_cons.mpr ⟨okS16, List.forall_mem_cons.mpr ⟨okS17, List.forall_mem_cons.mpr ⟨okS18, List.forall_mem_cons.mpr ⟨okS19, List.forall_mem_cons.mpr ⟨okS20, List.forall_mem_cons.mpr ⟨okS21, List.forall_mem_cons.mpr ⟨okS22, List.forall_mem_cons.mpr ⟨okS23, List.forall_mem_cons.mpr ⟨okS24, List.forall_mem_cons.mpr ⟨okS25, List.forall_mem_cons.mpr ⟨okS26, List.forall_mem_cons.mpr ⟨okS27, List.forall_mem_cons.mpr ⟨okS28, List.forall_mem_cons.mpr ⟨okS29, List.forall_mem_cons.mpr ⟨okS30, List.forall_mem_cons.mpr ⟨okS31, List.forall_mem_cons.mpr ⟨okS32, List.forall_mem_cons.mpr ⟨okS33, List.forall_mem_cons.mpr ⟨okS34, List.forall_mem_cons.mpr ⟨okS35, List.forall_mem_cons.mpr ⟨okS36, List.forall_mem_cons.mpr ⟨okS37, List.forall_mem_cons.mpr ⟨okS38, List.forall_mem_cons.mpr ⟨okS39, List.forall_mem_cons.mpr ⟨okS40, List.forall_mem_cons.mpr ⟨okS41, List.forall_mem_cons.mpr ⟨okS42, List.forall_mem_cons.mpr ⟨okS43, List.forall_mem_cons.mpr ⟨okS44, List.forall_mem_cons.mpr ⟨okS45, List.forall_mem_cons.mpr ⟨okS46, List.forall_mem_cons.mpr ⟨okS47, List.forall_mem_cons.mpr ⟨okS48, List.forall_mem_cons.mpr ⟨okS49, fun S h => absurd h List.not_mem_nil⟩⟩⟩⟩⟩⟩⟩⟩⟩⟩⟩⟩⟩⟩⟩⟩⟩⟩⟩⟩⟩⟩⟩⟩⟩⟩⟩⟩⟩⟩⟩⟩⟩⟩⟩⟩⟩⟩⟩⟩⟩⟩⟩⟩⟩⟩⟩⟩⟩⟩
theorem ok9L_law : acok (x, code, 8, (some .boolean), ac9L_law, 12, 0) := fun q hq => by
  obtain ⟨S, hS, hq⟩ := List.mem_flatten.mp hq
  exact okS S hS q hq
/-- the law's own rules: the script, the wrappers -/
noncomputable def lwXR (L : Nat) (xs : Nat → Int32) : KT → KT := fun K pc ls st h bc bs =>
  (∃ (r1 r2 : Nat) (r3 : Int) (r : List Value), (pc, .arraylength, r1, r2, r3) ∈ ac9L_law ∧ st = .ref 1000006 :: r ∧ K (pc + 1) ls (.int (I (L : Int)) :: r) h bc bs) ∨
  (∃ (r1 r2 : Nat) (r3 : Int) (e : Int) (r : List Value), (pc, .iaload, r1, r2, r3) ∈ ac9L_law ∧ st = .int (I e) :: .ref 1000006 :: r ∧ 0 ≤ e ∧ e < (L : Int) ∧ K (pc + 1) ls (.int (I (xs e.toNat).toInt) :: r) h bc bs) ∨
  (pc = 360 ∧ ∃ (sh : List (Nat × Nat)) (i j : Int), GD gE gRL sh h ∧ h.1[201]? = some (1, 1) ∧ r32 i ∧ r32 j ∧ st = [.ref 201, .int (I j), .int (I i), .ref 0] ∧ (ls.all fun q => okv h q.2) = true ∧ 1 ≤ bc ∧ 6 ≤ bs ∧ ∀ rv h', wrQ h (postR h i j) rv h' → K (pc + 3) ls (psh rv []) h' (bc - 1) (bs - 6)) ∨ (pc = 400 ∧ ∃ (sh : List (Nat × Nat)) (i j : Int), GD gE gRL sh h ∧ h.1[201]? = some (1, 1) ∧ r32 i ∧ r32 j ∧ st = [.ref 201, .int (I j), .int (I i), .ref 0] ∧ (ls.all fun q => okv h q.2) = true ∧ 1 ≤ bc ∧ 6 ≤ bs ∧ ∀ rv h', wrQ h (rockR h i j) rv h' → K (pc + 3) ls (psh rv []) h' (bc - 1) (bs - 6)) ∨ (pc = 440 ∧ ∃ (sh : List (Nat × Nat)) (i j : Int), GD gE gRL sh h ∧ h.1[201]? = some (1, 1) ∧ r32 i ∧ r32 j ∧ st = [.ref 201, .int (I j), .int (I i), .ref 0] ∧ (ls.all fun q => okv h q.2) = true ∧ 1 ≤ bc ∧ 6 ≤ bs ∧ ∀ rv h', wrQ h (messR h i j) rv h' → K (pc + 3) ls (psh rv []) h' (bc - 1) (bs - 6)) ∨ (pc = 480 ∧ ∃ (sh : List (Nat × Nat)) (i j : Int), GD gE gRL sh h ∧ h.1[201]? = some (1, 1) ∧ r32 i ∧ r32 j ∧ st = [.ref 201, .int (I j), .int (I i), .ref 0] ∧ (ls.all fun q => okv h q.2) = true ∧ 1 ≤ bc ∧ 6 ≤ bs ∧ ∀ rv h', wrQ h (wayR h i j) rv h' → K (pc + 3) ls (psh rv []) h' (bc - 1) (bs - 6)) ∨ (pc = 1563 ∧ ∃ (sh : List (Nat × Nat)) (i : Int), GD gE gRL sh h ∧ h.1[201]? = some (1, 1) ∧ r32 i ∧ st = [.ref 201, .int (I i), .ref 0] ∧ (ls.all fun q => okv h q.2) = true ∧ 1 ≤ bc ∧ 6 ≤ bs ∧ ∀ rv h', wrQ h (rowR h i) rv h' → K (pc + 3) ls (psh rv []) h' (bc - 1) (bs - 6))
noncomputable def lwQ : QT := fun rv _ => rv = some (.int (I 1))
noncomputable def okL (v : Value) : Bool := match v with
  | .ref a => decide (a < 202) || decide (1000000 ≤ a)
  | _ => true
noncomputable def lok (ls : List (Nat × Value)) : Bool := ls.all fun q => okL q.2
theorem lok_so1 {ls : List (Nat × Value)} {i : Nat} {v : Value} (hl : lok ls = true) (hv : okL v = true) : lok (so1 ls i v) = true := by
  unfold lok so1
  rw [List.all_cons, hv, Bool.true_and]
  exact List.all_eq_true.mpr fun q hq => List.all_eq_true.mp hl q (List.mem_filter.mp hq).1
theorem lok_so2 {ls : List (Nat × Value)} {i : Nat} {v : Value} (hl : lok ls = true) (hv : okL v = true) : lok (so2 ls i v) = true := by
  unfold lok so2
  rw [List.all_cons, hv, Bool.true_and]
  exact List.all_eq_true.mpr fun q hq => List.all_eq_true.mp hl q (List.mem_filter.mp hq).1
theorem okL_okv {v : Value} {h : aH} (hv : okL v = true) (hh : 202 ≤ h.1.length) : okv h v = true := by
  cases v with
  | ref a =>
    have hv2 : (decide (a < 202) || decide (1000000 ≤ a)) = true := hv
    show (decide (a < h.1.length) || decide (1000000 ≤ a)) = true
    simp only [Bool.or_eq_true, decide_eq_true_eq] at hv2 ⊢
    exact hv2.imp (fun z => Nat.lt_of_lt_of_le z hh) id
  | _ => rfl
theorem lok_okv {ls : List (Nat × Value)} {h : aH} (hl : lok ls = true) (hh : 202 ≤ h.1.length) : (ls.all fun q => okv h q.2) = true := List.all_eq_true.mpr fun q hq => okL_okv (List.all_eq_true.mp hl q hq) hh
theorem sub_K {K : KT} {CL : CT} {ret : Option FieldType} {Q : QT} (hK : CLO CL ac9L_law ret Q K) (k : Nat) {S : AC} (hS : lawS[k]? = some S) : CLO CL S ret Q K := fun pc ls st h bc bs ⟨i, r1, r2, r3, hm, hs⟩ => hK pc ls st h bc bs ⟨i, r1, r2, r3, List.mem_flatten.mpr ⟨S, List.mem_of_getElem? hS, hm⟩, hs⟩
section LAWR
variable {K : KT} {Lx : Nat} {xs : Nat → Int32} {sh : List (Nat × Nat)}
theorem x_scr (p k : Nat) {S : AC} (hX : ∀ (pc : Nat) (ls : List (Nat × Value)) (st : List Value) (h : aH) (bc bs : Nat), lwXR Lx xs K pc ls st h bc bs → K pc ls st h bc bs) (hS : lawS[k]? = some S) {pc r1 r2 : Nat} {r3 e : Int} {ls : List (Nat × Value)} {st : List Value} {h : aH} {bc bs : Nat} (hf : fr S pc = some (.iaload, r1, r2, r3)) (hp : pc + 1 = p) (h0 : 0 ≤ e) (h1 : e < (Lx : Int)) (hk : K p ls (.int (I (xs e.toNat).toInt) :: st) h bc bs) : K pc ls (.int (I e) :: .ref 1000006 :: st) h bc bs := by
  subst hp
  exact hX _ _ _ _ _ _ (Or.inr (Or.inl ⟨r1, r2, r3, e, st, List.mem_flatten.mpr ⟨S, List.mem_of_getElem? hS, fr_mem hf⟩, rfl, h0, h1, hk⟩))
theorem x_slen (p k : Nat) {S : AC} (hX : ∀ (pc : Nat) (ls : List (Nat × Value)) (st : List Value) (h : aH) (bc bs : Nat), lwXR Lx xs K pc ls st h bc bs → K pc ls st h bc bs) (hS : lawS[k]? = some S) {pc r1 r2 : Nat} {r3 : Int} {ls : List (Nat × Value)} {st : List Value} {h : aH} {bc bs : Nat} (hf : fr S pc = some (.arraylength, r1, r2, r3)) (hp : pc + 1 = p) (hk : K p ls (.int (I (Lx : Int)) :: st) h bc bs) : K pc ls (.ref 1000006 :: st) h bc bs := by
  subst hp
  exact hX _ _ _ _ _ _ (Or.inl ⟨r1, r2, r3, st, List.mem_flatten.mpr ⟨S, List.mem_of_getElem? hS, fr_mem hf⟩, rfl, hk⟩)
theorem s0_ {b : Int} {h : aH} (hI : INV sh b h) : h.1[0]? = some (110, 17) := shx hI.1 (a := 0) (r := 0) (s := (110, 17)) (by decide +kernel) (by decide +kernel)
theorem s171g_ {h : aH} (hG : GD gE gRL sh h) : h.1[171]? = some (111, 53) := shx hG (a := 171) (r := 54) (s := (111, 53)) (by decide +kernel) (by decide +kernel)
theorem s171_ {b : Int} {h : aH} (hI : INV sh b h) : h.1[171]? = some (111, 53) := shx hI.1 (a := 171) (r := 54) (s := (111, 53)) (by decide +kernel) (by decide +kernel)
theorem s201_ {b : Int} {h : aH} (hI : INV sh b h) : h.1[201]? = some (1, 1) := shx hI.1 (a := 201) (r := 84) (s := (1, 1)) (by decide +kernel) (by decide +kernel)
theorem sl_ {b : Int} {h : aH} (hI : INV sh b h) : 202 ≤ h.1.length := (List.getElem?_eq_some_iff.mp (s201_ hI)).1
theorem wr_inv {b : Int} {h h' : aH} {R : Option Int → Prop} {rv : Option Value} (hI : INV sh b h) (hw : wrQ h R rv h') : (∃ e : Int, rv = some (.int (I e))) ∧ INV sh b h' := by
  rcases hw with ⟨-, rfl, rfl⟩ | ⟨v, -, rfl, rfl⟩
  · exact ⟨⟨_, rfl⟩, hI⟩
  · exact ⟨⟨_, rfl⟩, INV_J hI⟩
theorem wr_cr {h h' : aH} {R : Option Int → Prop} {rv : Option Value} (hC : CR h) (hw : wrQ h R rv h') : CR h' := by
  rcases hw with ⟨-, rfl, rfl⟩ | ⟨v, -, rfl, rfl⟩
  · exact hC
  · exact CR_J hC
set_option maxRecDepth 8000 in
theorem lc1 (hK : CLO (CLd SPt 310) ac9L_law (some .boolean) lwQ K) (hX : ∀ (pc : Nat) (ls : List (Nat × Value)) (st : List Value) (h : aH) (bc bs : Nat), lwXR Lx xs K pc ls st h bc bs → K pc ls st h bc bs) {t b : Int} {h : aH} {ls : List (Nat × Value)} {bc bs : Nat} (ht : 0 ≤ t ∧ t + 5 ≤ (Lx : Int)) (hL : Lx ≤ 2560) (hI : INV sh b h) (hC : CR h) (hb : b ≤ 320000) (l0 : lk ls 0 = some (.ref 1000006)) (l1 : lk ls 1 = some (.ref 0)) (l2 : lk ls 2 = some (.ref 171)) (l3 : lk ls 3 = some (.ref 201)) (l4 : lk ls 4 = some (.int (I t))) (lo : lok ls = true) (hbc : 1 ≤ bc) (hbs : 6 ≤ bs)
    (hE : ∀ (ls' : List (Nat × Value)) (h' : aH) (bc' bs' : Nat), lk ls' 0 = some (.ref 1000006) → lk ls' 1 = some (.ref 0) → lk ls' 2 = some (.ref 171) → lk ls' 3 = some (.ref 201) → lk ls' 4 = some (.int (I t)) → lok ls' = true → INV sh (b + 600) h' → CR h' → bc ≤ bc' + 1 → bs ≤ bs' + 6 → K 1583 ls' [] h' bc' bs') : K 244 ls [] h bc bs := by
  have hK := sub_K hK 1 (S := aS1) rfl
  have hmono := MONO_CLd SPt_mono 310
  refine x_aload_n 245 hK rfl rfl l1 ?_
  refine x_aload_n 246 hK rfl rfl l0 ?_
  refine x_iload 248 hK rfl rfl l4 ?_
  refine x_iconst 249 hK rfl rfl ?_
  refine x_iadd 250 hK rfl rfl ?_
  refine x_scr 251 1 hX rfl rfl rfl (by omega) (by omega) ?_
  refine x_callV 254 hK hmono rfl rfl [.ref 0, .int (I ((xs (t + 1).toNat).toInt))] [] rfl rfl (Nat.le_of_ble_eq_true rfl) (Nat.le_of_ble_eq_true rfl) rfl (s0_ hI) (pr_sign hI hC hb (r_I _)) ?_
  rintro v1 h1 ⟨e1, re1, rfl, hG1, cl1⟩
  refine x_pop 255 hK rfl rfl rfl ?_
  refine x_aload_n 256 hK rfl rfl l2 ?_
  refine x_aload_n 257 hK rfl rfl l0 ?_
  refine x_iload 259 hK rfl rfl l4 ?_
  refine x_iconst 260 hK rfl rfl ?_
  refine x_iadd 261 hK rfl rfl ?_
  refine x_scr 262 1 hX rfl rfl rfl (by omega) (by omega) ?_
  refine x_callV 265 hK hmono rfl rfl [.ref 171, .int (I ((xs (t + 1).toNat).toInt))] [] rfl rfl (Nat.le_of_ble_eq_true rfl) (Nat.le_of_ble_eq_true rfl) rfl (s171g_ hG1) cl1 ?_
  rintro v2 h2 ⟨e2, re2, rfl, ee2, hI2, hC2⟩
  refine x_pop 266 hK rfl rfl rfl ?_
  refine x_goto 1583 hK rfl rfl ?_
  exact hE _ _ _ _ l0 l1 l2 l3 l4 lo (hI2.mono (by omega)) hC2 (by omega) (by omega)
set_option maxRecDepth 8000 in
theorem lc2 (hK : CLO (CLd SPt 310) ac9L_law (some .boolean) lwQ K) (hX : ∀ (pc : Nat) (ls : List (Nat × Value)) (st : List Value) (h : aH) (bc bs : Nat), lwXR Lx xs K pc ls st h bc bs → K pc ls st h bc bs) {t b : Int} {h : aH} {ls : List (Nat × Value)} {bc bs : Nat} (ht : 0 ≤ t ∧ t + 5 ≤ (Lx : Int)) (hL : Lx ≤ 2560) (hI : INV sh b h) (hC : CR h) (hb : b ≤ 320000) (l0 : lk ls 0 = some (.ref 1000006)) (l1 : lk ls 1 = some (.ref 0)) (l2 : lk ls 2 = some (.ref 171)) (l3 : lk ls 3 = some (.ref 201)) (l4 : lk ls 4 = some (.int (I t))) (lo : lok ls = true) (hbc : 1 ≤ bc) (hbs : 6 ≤ bs)
    (hE : ∀ (ls' : List (Nat × Value)) (h' : aH) (bc' bs' : Nat), lk ls' 0 = some (.ref 1000006) → lk ls' 1 = some (.ref 0) → lk ls' 2 = some (.ref 171) → lk ls' 3 = some (.ref 201) → lk ls' 4 = some (.int (I t)) → lok ls' = true → INV sh (b + 600) h' → CR h' → bc ≤ bc' + 1 → bs ≤ bs' + 6 → K 1583 ls' [] h' bc' bs') : K 269 ls [] h bc bs := by
  have hK := sub_K hK 2 (S := aS2) rfl
  have hmono := MONO_CLd SPt_mono 310
  refine x_aload_n 270 hK rfl rfl l1 ?_
  refine x_aload_n 271 hK rfl rfl l0 ?_
  refine x_iload 273 hK rfl rfl l4 ?_
  refine x_iconst 274 hK rfl rfl ?_
  refine x_iadd 275 hK rfl rfl ?_
  refine x_scr 276 2 hX rfl rfl rfl (by omega) (by omega) ?_
  refine x_callV 279 hK hmono rfl rfl [.ref 0, .int (I ((xs (t + 1).toNat).toInt))] [] rfl rfl (Nat.le_of_ble_eq_true rfl) (Nat.le_of_ble_eq_true rfl) rfl (s0_ hI) (pr_end hI hC hb (r_I _)) ?_
  rintro v1 h1 ⟨e1, re1, rfl, hG1, cl1⟩
  refine x_pop 280 hK rfl rfl rfl ?_
  refine x_aload_n 281 hK rfl rfl l2 ?_
  refine x_aload_n 282 hK rfl rfl l0 ?_
  refine x_iload 284 hK rfl rfl l4 ?_
  refine x_iconst 285 hK rfl rfl ?_
  refine x_iadd 286 hK rfl rfl ?_
  refine x_scr 287 2 hX rfl rfl rfl (by omega) (by omega) ?_
  refine x_callV 290 hK hmono rfl rfl [.ref 171, .int (I ((xs (t + 1).toNat).toInt))] [] rfl rfl (Nat.le_of_ble_eq_true rfl) (Nat.le_of_ble_eq_true rfl) rfl (s171g_ hG1) cl1 ?_
  rintro v2 h2 ⟨e2, re2, rfl, ee2, hI2, hC2⟩
  refine x_pop 291 hK rfl rfl rfl ?_
  refine x_goto 1583 hK rfl rfl ?_
  exact hE _ _ _ _ l0 l1 l2 l3 l4 lo (hI2.mono (by omega)) hC2 (by omega) (by omega)
set_option maxRecDepth 8000 in
theorem lc3 (hK : CLO (CLd SPt 310) ac9L_law (some .boolean) lwQ K) (hX : ∀ (pc : Nat) (ls : List (Nat × Value)) (st : List Value) (h : aH) (bc bs : Nat), lwXR Lx xs K pc ls st h bc bs → K pc ls st h bc bs) {t b : Int} {h : aH} {ls : List (Nat × Value)} {bc bs : Nat} (ht : 0 ≤ t ∧ t + 5 ≤ (Lx : Int)) (hL : Lx ≤ 2560) (hI : INV sh b h) (hC : CR h) (hb : b ≤ 320000) (l0 : lk ls 0 = some (.ref 1000006)) (l1 : lk ls 1 = some (.ref 0)) (l2 : lk ls 2 = some (.ref 171)) (l3 : lk ls 3 = some (.ref 201)) (l4 : lk ls 4 = some (.int (I t))) (lo : lok ls = true) (hbc : 1 ≤ bc) (hbs : 6 ≤ bs)
    (hE : ∀ (ls' : List (Nat × Value)) (h' : aH) (bc' bs' : Nat), lk ls' 0 = some (.ref 1000006) → lk ls' 1 = some (.ref 0) → lk ls' 2 = some (.ref 171) → lk ls' 3 = some (.ref 201) → lk ls' 4 = some (.int (I t)) → lok ls' = true → INV sh (b + 600) h' → CR h' → bc ≤ bc' + 1 → bs ≤ bs' + 6 → K 1583 ls' [] h' bc' bs') : K 294 ls [] h bc bs := by
  have hK := sub_K hK 3 (S := aS3) rfl
  have hmono := MONO_CLd SPt_mono 310
  refine x_aload_n 295 hK rfl rfl l1 ?_
  refine x_callV 298 hK hmono rfl rfl [.ref 0] [] rfl rfl (Nat.le_of_ble_eq_true rfl) (Nat.le_of_ble_eq_true rfl) rfl (s0_ hI) (pr_ship hI hC hb ) ?_
  rintro v1 h1 ⟨e1, re1, rfl, hG1, cl1⟩
  refine x_pop 299 hK rfl rfl rfl ?_
  refine x_aload_n 300 hK rfl rfl l2 ?_
  refine x_callV 303 hK hmono rfl rfl [.ref 171] [] rfl rfl (Nat.le_of_ble_eq_true rfl) (Nat.le_of_ble_eq_true rfl) rfl (s171g_ hG1) cl1 ?_
  rintro v2 h2 ⟨e2, re2, rfl, ee2, hI2, hC2⟩
  refine x_pop 304 hK rfl rfl rfl ?_
  refine x_goto 1583 hK rfl rfl ?_
  exact hE _ _ _ _ l0 l1 l2 l3 l4 lo (hI2.mono (by omega)) hC2 (by omega) (by omega)
set_option maxRecDepth 8000 in
theorem lc4 (hK : CLO (CLd SPt 310) ac9L_law (some .boolean) lwQ K) (hX : ∀ (pc : Nat) (ls : List (Nat × Value)) (st : List Value) (h : aH) (bc bs : Nat), lwXR Lx xs K pc ls st h bc bs → K pc ls st h bc bs) {t b : Int} {h : aH} {ls : List (Nat × Value)} {bc bs : Nat} (ht : 0 ≤ t ∧ t + 5 ≤ (Lx : Int)) (hL : Lx ≤ 2560) (hI : INV sh b h) (hC : CR h) (hb : b ≤ 320000) (l0 : lk ls 0 = some (.ref 1000006)) (l1 : lk ls 1 = some (.ref 0)) (l2 : lk ls 2 = some (.ref 171)) (l3 : lk ls 3 = some (.ref 201)) (l4 : lk ls 4 = some (.int (I t))) (lo : lok ls = true) (hbc : 1 ≤ bc) (hbs : 6 ≤ bs)
    (hE : ∀ (ls' : List (Nat × Value)) (h' : aH) (bc' bs' : Nat), lk ls' 0 = some (.ref 1000006) → lk ls' 1 = some (.ref 0) → lk ls' 2 = some (.ref 171) → lk ls' 3 = some (.ref 201) → lk ls' 4 = some (.int (I t)) → lok ls' = true → INV sh (b + 600) h' → CR h' → bc ≤ bc' + 1 → bs ≤ bs' + 6 → K 1583 ls' [] h' bc' bs') : K 307 ls [] h bc bs := by
  have hK := sub_K hK 4 (S := aS4) rfl
  have hmono := MONO_CLd SPt_mono 310
  refine x_aload_n 308 hK rfl rfl l1 ?_
  refine x_callV 311 hK hmono rfl rfl [.ref 0] [] rfl rfl (Nat.le_of_ble_eq_true rfl) (Nat.le_of_ble_eq_true rfl) rfl (s0_ hI) (pr_rocks hI hC hb ) ?_
  rintro v1 h1 ⟨e1, re1, rfl, hG1, cl1⟩
  refine x_pop 312 hK rfl rfl rfl ?_
  refine x_aload_n 313 hK rfl rfl l2 ?_
  refine x_callV 316 hK hmono rfl rfl [.ref 171] [] rfl rfl (Nat.le_of_ble_eq_true rfl) (Nat.le_of_ble_eq_true rfl) rfl (s171g_ hG1) cl1 ?_
  rintro v2 h2 ⟨e2, re2, rfl, ee2, hI2, hC2⟩
  refine x_pop 317 hK rfl rfl rfl ?_
  refine x_goto 1583 hK rfl rfl ?_
  exact hE _ _ _ _ l0 l1 l2 l3 l4 lo (hI2.mono (by omega)) hC2 (by omega) (by omega)
set_option maxRecDepth 8000 in
theorem lc5 (hK : CLO (CLd SPt 310) ac9L_law (some .boolean) lwQ K) (hX : ∀ (pc : Nat) (ls : List (Nat × Value)) (st : List Value) (h : aH) (bc bs : Nat), lwXR Lx xs K pc ls st h bc bs → K pc ls st h bc bs) {t b : Int} {h : aH} {ls : List (Nat × Value)} {bc bs : Nat} (ht : 0 ≤ t ∧ t + 5 ≤ (Lx : Int)) (hL : Lx ≤ 2560) (hI : INV sh b h) (hC : CR h) (hb : b ≤ 320000) (l0 : lk ls 0 = some (.ref 1000006)) (l1 : lk ls 1 = some (.ref 0)) (l2 : lk ls 2 = some (.ref 171)) (l3 : lk ls 3 = some (.ref 201)) (l4 : lk ls 4 = some (.int (I t))) (lo : lok ls = true) (hbc : 1 ≤ bc) (hbs : 6 ≤ bs)
    (hE : ∀ (ls' : List (Nat × Value)) (h' : aH) (bc' bs' : Nat), lk ls' 0 = some (.ref 1000006) → lk ls' 1 = some (.ref 0) → lk ls' 2 = some (.ref 171) → lk ls' 3 = some (.ref 201) → lk ls' 4 = some (.int (I t)) → lok ls' = true → INV sh (b + 600) h' → CR h' → bc ≤ bc' + 1 → bs ≤ bs' + 6 → K 1583 ls' [] h' bc' bs') : K 320 ls [] h bc bs := by
  have hK := sub_K hK 5 (S := aS5) rfl
  have hmono := MONO_CLd SPt_mono 310
  refine x_aload_n 321 hK rfl rfl l1 ?_
  refine x_callV 324 hK hmono rfl rfl [.ref 0] [] rfl rfl (Nat.le_of_ble_eq_true rfl) (Nat.le_of_ble_eq_true rfl) rfl (s0_ hI) (pr_messes hI hC hb ) ?_
  rintro v1 h1 ⟨e1, re1, rfl, hG1, cl1⟩
  refine x_pop 325 hK rfl rfl rfl ?_
  refine x_aload_n 326 hK rfl rfl l2 ?_
  refine x_callV 329 hK hmono rfl rfl [.ref 171] [] rfl rfl (Nat.le_of_ble_eq_true rfl) (Nat.le_of_ble_eq_true rfl) rfl (s171g_ hG1) cl1 ?_
  rintro v2 h2 ⟨e2, re2, rfl, ee2, hI2, hC2⟩
  refine x_pop 330 hK rfl rfl rfl ?_
  refine x_goto 1583 hK rfl rfl ?_
  exact hE _ _ _ _ l0 l1 l2 l3 l4 lo (hI2.mono (by omega)) hC2 (by omega) (by omega)
set_option maxRecDepth 8000 in
theorem lc6 (hK : CLO (CLd SPt 310) ac9L_law (some .boolean) lwQ K) (hX : ∀ (pc : Nat) (ls : List (Nat × Value)) (st : List Value) (h : aH) (bc bs : Nat), lwXR Lx xs K pc ls st h bc bs → K pc ls st h bc bs) {t b : Int} {h : aH} {ls : List (Nat × Value)} {bc bs : Nat} (ht : 0 ≤ t ∧ t + 5 ≤ (Lx : Int)) (hL : Lx ≤ 2560) (hI : INV sh b h) (hC : CR h) (hb : b ≤ 320000) (l0 : lk ls 0 = some (.ref 1000006)) (l1 : lk ls 1 = some (.ref 0)) (l2 : lk ls 2 = some (.ref 171)) (l3 : lk ls 3 = some (.ref 201)) (l4 : lk ls 4 = some (.int (I t))) (lo : lok ls = true) (hbc : 1 ≤ bc) (hbs : 6 ≤ bs)
    (hE : ∀ (ls' : List (Nat × Value)) (h' : aH) (bc' bs' : Nat), lk ls' 0 = some (.ref 1000006) → lk ls' 1 = some (.ref 0) → lk ls' 2 = some (.ref 171) → lk ls' 3 = some (.ref 201) → lk ls' 4 = some (.int (I t)) → lok ls' = true → INV sh (b + 600) h' → CR h' → bc ≤ bc' + 1 → bs ≤ bs' + 6 → K 1583 ls' [] h' bc' bs') : K 333 ls [] h bc bs := by
  have hK := sub_K hK 6 (S := aS6) rfl
  have hmono := MONO_CLd SPt_mono 310
  refine x_aload_n 334 hK rfl rfl l1 ?_
  refine x_callV 337 hK hmono rfl rfl [.ref 0] [] rfl rfl (Nat.le_of_ble_eq_true rfl) (Nat.le_of_ble_eq_true rfl) rfl (s0_ hI) (pr_rule hI hC hb ) ?_
  rintro v1 h1 ⟨e1, re1, rfl, hG1, cl1⟩
  refine x_pop 338 hK rfl rfl rfl ?_
  refine x_aload_n 339 hK rfl rfl l2 ?_
  refine x_callV 342 hK hmono rfl rfl [.ref 171] [] rfl rfl (Nat.le_of_ble_eq_true rfl) (Nat.le_of_ble_eq_true rfl) rfl (s171g_ hG1) cl1 ?_
  rintro v2 h2 ⟨e2, re2, rfl, ee2, hI2, hC2⟩
  refine x_pop 343 hK rfl rfl rfl ?_
  refine x_goto 1583 hK rfl rfl ?_
  exact hE _ _ _ _ l0 l1 l2 l3 l4 lo (hI2.mono (by omega)) hC2 (by omega) (by omega)
set_option maxRecDepth 8000 in
theorem lc7 (hK : CLO (CLd SPt 310) ac9L_law (some .boolean) lwQ K) (hX : ∀ (pc : Nat) (ls : List (Nat × Value)) (st : List Value) (h : aH) (bc bs : Nat), lwXR Lx xs K pc ls st h bc bs → K pc ls st h bc bs) {t b : Int} {h : aH} {ls : List (Nat × Value)} {bc bs : Nat} (ht : 0 ≤ t ∧ t + 5 ≤ (Lx : Int)) (hL : Lx ≤ 2560) (hI : INV sh b h) (hC : CR h) (hb : b ≤ 320000) (l0 : lk ls 0 = some (.ref 1000006)) (l1 : lk ls 1 = some (.ref 0)) (l2 : lk ls 2 = some (.ref 171)) (l3 : lk ls 3 = some (.ref 201)) (l4 : lk ls 4 = some (.int (I t))) (lo : lok ls = true) (hbc : 1 ≤ bc) (hbs : 6 ≤ bs)
    (hE : ∀ (ls' : List (Nat × Value)) (h' : aH) (bc' bs' : Nat), lk ls' 0 = some (.ref 1000006) → lk ls' 1 = some (.ref 0) → lk ls' 2 = some (.ref 171) → lk ls' 3 = some (.ref 201) → lk ls' 4 = some (.int (I t)) → lok ls' = true → INV sh (b + 600) h' → CR h' → bc ≤ bc' + 1 → bs ≤ bs' + 6 → K 1583 ls' [] h' bc' bs') : K 346 ls [] h bc bs := by
  have hK := sub_K hK 7 (S := aS7) rfl
  have hmono := MONO_CLd SPt_mono 310
  refine x_aload_n 347 hK rfl rfl l1 ?_
  refine x_aload_n 348 hK rfl rfl l0 ?_
  refine x_iload 350 hK rfl rfl l4 ?_
  refine x_iconst 351 hK rfl rfl ?_
  refine x_iadd 352 hK rfl rfl ?_
  refine x_scr 353 7 hX rfl rfl rfl (by omega) (by omega) ?_
  refine x_aload_n 354 hK rfl rfl l0 ?_
  refine x_iload 356 hK rfl rfl l4 ?_
  refine x_iconst 357 hK rfl rfl ?_
  refine x_iadd 358 hK rfl rfl ?_
  refine x_scr 359 7 hX rfl rfl rfl (by omega) (by omega) ?_
  refine x_aload_n 360 hK rfl rfl l3 ?_
  refine hX _ _ _ _ _ _ (Or.inr (Or.inr (Or.inl ⟨rfl, sh, _, _, hI.1, s201_ hI, r_I _, r_I _, rfl, lok_okv lo (sl_ hI), hbc, hbs, fun v1 h1 hw => ?_⟩)))
  obtain ⟨⟨e1, rfl⟩, hI1⟩ := wr_inv hI hw
  have hC1 := wr_cr hC hw
  refine x_istore 365 hK rfl rfl _ rfl ?_
  have m20 := lk1_n (i := 5) (v := .int (I e1)) l0 (by decide) (Or.inl rfl)
  have m21 := lk1_n (i := 5) (v := .int (I e1)) l1 (by decide) (Or.inl rfl)
  have m22 := lk1_n (i := 5) (v := .int (I e1)) l2 (by decide) (Or.inl rfl)
  have m23 := lk1_n (i := 5) (v := .int (I e1)) l3 (by decide) (Or.inl rfl)
  have m24 := lk1_n (i := 5) (v := .int (I e1)) l4 (by decide) (Or.inl rfl)
  have lo2 := lok_so1 (i := 5) (v := .int (I e1)) lo rfl
  refine x_aload_n 366 hK rfl rfl m22 ?_
  refine x_aload_n 367 hK rfl rfl m20 ?_
  refine x_iload 369 hK rfl rfl m24 ?_
  refine x_iconst 370 hK rfl rfl ?_
  refine x_iadd 371 hK rfl rfl ?_
  refine x_scr 372 7 hX rfl rfl rfl (by omega) (by omega) ?_
  refine x_aload_n 373 hK rfl rfl m20 ?_
  refine x_iload 375 hK rfl rfl m24 ?_
  refine x_iconst 376 hK rfl rfl ?_
  refine x_iadd 377 hK rfl rfl ?_
  refine x_scr 378 7 hX rfl rfl rfl (by omega) (by omega) ?_
  refine x_callV 381 hK hmono rfl rfl [.ref 171, .int (I ((xs (t + 1).toNat).toInt)), .int (I ((xs (t + 2).toNat).toInt))] [] rfl rfl (Nat.le_of_ble_eq_true rfl) (Nat.le_of_ble_eq_true rfl) rfl (s171_ hI1) (loX11_post hI1 hb (r_I _) (r_I _)) ?_
  rintro v3 h3 ⟨⟨e3, rfl⟩, hI3, hF3⟩
  have hC3 := CR_F hF3 (by decide +kernel) hC1
  refine x_istore 383 hK rfl rfl _ rfl ?_
  have m40 := lk1_n (i := 6) (v := .int (I e3)) m20 (by decide) (Or.inl rfl)
  have m41 := lk1_n (i := 6) (v := .int (I e3)) m21 (by decide) (Or.inl rfl)
  have m42 := lk1_n (i := 6) (v := .int (I e3)) m22 (by decide) (Or.inl rfl)
  have m43 := lk1_n (i := 6) (v := .int (I e3)) m23 (by decide) (Or.inl rfl)
  have m44 := lk1_n (i := 6) (v := .int (I e3)) m24 (by decide) (Or.inl rfl)
  have lo4 := lok_so1 (i := 6) (v := .int (I e3)) lo2 rfl
  refine x_goto 1583 hK rfl rfl ?_
  exact hE _ _ _ _ m40 m41 m42 m43 m44 lo4 (hI3.mono (by omega)) hC3 (by omega) (by omega)
set_option maxRecDepth 8000 in
theorem lc8 (hK : CLO (CLd SPt 310) ac9L_law (some .boolean) lwQ K) (hX : ∀ (pc : Nat) (ls : List (Nat × Value)) (st : List Value) (h : aH) (bc bs : Nat), lwXR Lx xs K pc ls st h bc bs → K pc ls st h bc bs) {t b : Int} {h : aH} {ls : List (Nat × Value)} {bc bs : Nat} (ht : 0 ≤ t ∧ t + 5 ≤ (Lx : Int)) (hL : Lx ≤ 2560) (hI : INV sh b h) (hC : CR h) (hb : b ≤ 320000) (l0 : lk ls 0 = some (.ref 1000006)) (l1 : lk ls 1 = some (.ref 0)) (l2 : lk ls 2 = some (.ref 171)) (l3 : lk ls 3 = some (.ref 201)) (l4 : lk ls 4 = some (.int (I t))) (lo : lok ls = true) (hbc : 1 ≤ bc) (hbs : 6 ≤ bs)
    (hE : ∀ (ls' : List (Nat × Value)) (h' : aH) (bc' bs' : Nat), lk ls' 0 = some (.ref 1000006) → lk ls' 1 = some (.ref 0) → lk ls' 2 = some (.ref 171) → lk ls' 3 = some (.ref 201) → lk ls' 4 = some (.int (I t)) → lok ls' = true → INV sh (b + 600) h' → CR h' → bc ≤ bc' + 1 → bs ≤ bs' + 6 → K 1583 ls' [] h' bc' bs') : K 386 ls [] h bc bs := by
  have hK := sub_K hK 8 (S := aS8) rfl
  have hmono := MONO_CLd SPt_mono 310
  refine x_aload_n 387 hK rfl rfl l1 ?_
  refine x_aload_n 388 hK rfl rfl l0 ?_
  refine x_iload 390 hK rfl rfl l4 ?_
  refine x_iconst 391 hK rfl rfl ?_
  refine x_iadd 392 hK rfl rfl ?_
  refine x_scr 393 8 hX rfl rfl rfl (by omega) (by omega) ?_
  refine x_aload_n 394 hK rfl rfl l0 ?_
  refine x_iload 396 hK rfl rfl l4 ?_
  refine x_iconst 397 hK rfl rfl ?_
  refine x_iadd 398 hK rfl rfl ?_
  refine x_scr 399 8 hX rfl rfl rfl (by omega) (by omega) ?_
  refine x_aload_n 400 hK rfl rfl l3 ?_
  refine hX _ _ _ _ _ _ (Or.inr (Or.inr (Or.inr (Or.inl ⟨rfl, sh, _, _, hI.1, s201_ hI, r_I _, r_I _, rfl, lok_okv lo (sl_ hI), hbc, hbs, fun v1 h1 hw => ?_⟩))))
  obtain ⟨⟨e1, rfl⟩, hI1⟩ := wr_inv hI hw
  have hC1 := wr_cr hC hw
  refine x_istore 405 hK rfl rfl _ rfl ?_
  have m20 := lk1_n (i := 5) (v := .int (I e1)) l0 (by decide) (Or.inl rfl)
  have m21 := lk1_n (i := 5) (v := .int (I e1)) l1 (by decide) (Or.inl rfl)
  have m22 := lk1_n (i := 5) (v := .int (I e1)) l2 (by decide) (Or.inl rfl)
  have m23 := lk1_n (i := 5) (v := .int (I e1)) l3 (by decide) (Or.inl rfl)
  have m24 := lk1_n (i := 5) (v := .int (I e1)) l4 (by decide) (Or.inl rfl)
  have lo2 := lok_so1 (i := 5) (v := .int (I e1)) lo rfl
  refine x_aload_n 406 hK rfl rfl m22 ?_
  refine x_aload_n 407 hK rfl rfl m20 ?_
  refine x_iload 409 hK rfl rfl m24 ?_
  refine x_iconst 410 hK rfl rfl ?_
  refine x_iadd 411 hK rfl rfl ?_
  refine x_scr 412 8 hX rfl rfl rfl (by omega) (by omega) ?_
  refine x_aload_n 413 hK rfl rfl m20 ?_
  refine x_iload 415 hK rfl rfl m24 ?_
  refine x_iconst 416 hK rfl rfl ?_
  refine x_iadd 417 hK rfl rfl ?_
  refine x_scr 418 8 hX rfl rfl rfl (by omega) (by omega) ?_
  refine x_callV 421 hK hmono rfl rfl [.ref 171, .int (I ((xs (t + 1).toNat).toInt)), .int (I ((xs (t + 2).toNat).toInt))] [] rfl rfl (Nat.le_of_ble_eq_true rfl) (Nat.le_of_ble_eq_true rfl) rfl (s171_ hI1) (loX11_rock hI1 hb (r_I _) (r_I _)) ?_
  rintro v3 h3 ⟨⟨e3, rfl⟩, hI3, hF3⟩
  have hC3 := CR_F hF3 (by decide +kernel) hC1
  refine x_istore 423 hK rfl rfl _ rfl ?_
  have m40 := lk1_n (i := 6) (v := .int (I e3)) m20 (by decide) (Or.inl rfl)
  have m41 := lk1_n (i := 6) (v := .int (I e3)) m21 (by decide) (Or.inl rfl)
  have m42 := lk1_n (i := 6) (v := .int (I e3)) m22 (by decide) (Or.inl rfl)
  have m43 := lk1_n (i := 6) (v := .int (I e3)) m23 (by decide) (Or.inl rfl)
  have m44 := lk1_n (i := 6) (v := .int (I e3)) m24 (by decide) (Or.inl rfl)
  have lo4 := lok_so1 (i := 6) (v := .int (I e3)) lo2 rfl
  refine x_goto 1583 hK rfl rfl ?_
  exact hE _ _ _ _ m40 m41 m42 m43 m44 lo4 (hI3.mono (by omega)) hC3 (by omega) (by omega)
set_option maxRecDepth 8000 in
theorem lc9 (hK : CLO (CLd SPt 310) ac9L_law (some .boolean) lwQ K) (hX : ∀ (pc : Nat) (ls : List (Nat × Value)) (st : List Value) (h : aH) (bc bs : Nat), lwXR Lx xs K pc ls st h bc bs → K pc ls st h bc bs) {t b : Int} {h : aH} {ls : List (Nat × Value)} {bc bs : Nat} (ht : 0 ≤ t ∧ t + 5 ≤ (Lx : Int)) (hL : Lx ≤ 2560) (hI : INV sh b h) (hC : CR h) (hb : b ≤ 320000) (l0 : lk ls 0 = some (.ref 1000006)) (l1 : lk ls 1 = some (.ref 0)) (l2 : lk ls 2 = some (.ref 171)) (l3 : lk ls 3 = some (.ref 201)) (l4 : lk ls 4 = some (.int (I t))) (lo : lok ls = true) (hbc : 1 ≤ bc) (hbs : 6 ≤ bs)
    (hE : ∀ (ls' : List (Nat × Value)) (h' : aH) (bc' bs' : Nat), lk ls' 0 = some (.ref 1000006) → lk ls' 1 = some (.ref 0) → lk ls' 2 = some (.ref 171) → lk ls' 3 = some (.ref 201) → lk ls' 4 = some (.int (I t)) → lok ls' = true → INV sh (b + 600) h' → CR h' → bc ≤ bc' + 1 → bs ≤ bs' + 6 → K 1583 ls' [] h' bc' bs') : K 426 ls [] h bc bs := by
  have hK := sub_K hK 9 (S := aS9) rfl
  have hmono := MONO_CLd SPt_mono 310
  refine x_aload_n 427 hK rfl rfl l1 ?_
  refine x_aload_n 428 hK rfl rfl l0 ?_
  refine x_iload 430 hK rfl rfl l4 ?_
  refine x_iconst 431 hK rfl rfl ?_
  refine x_iadd 432 hK rfl rfl ?_
  refine x_scr 433 9 hX rfl rfl rfl (by omega) (by omega) ?_
  refine x_aload_n 434 hK rfl rfl l0 ?_
  refine x_iload 436 hK rfl rfl l4 ?_
  refine x_iconst 437 hK rfl rfl ?_
  refine x_iadd 438 hK rfl rfl ?_
  refine x_scr 439 9 hX rfl rfl rfl (by omega) (by omega) ?_
  refine x_aload_n 440 hK rfl rfl l3 ?_
  refine hX _ _ _ _ _ _ (Or.inr (Or.inr (Or.inr (Or.inr (Or.inl ⟨rfl, sh, _, _, hI.1, s201_ hI, r_I _, r_I _, rfl, lok_okv lo (sl_ hI), hbc, hbs, fun v1 h1 hw => ?_⟩)))))
  obtain ⟨⟨e1, rfl⟩, hI1⟩ := wr_inv hI hw
  have hC1 := wr_cr hC hw
  refine x_istore 445 hK rfl rfl _ rfl ?_
  have m20 := lk1_n (i := 5) (v := .int (I e1)) l0 (by decide) (Or.inl rfl)
  have m21 := lk1_n (i := 5) (v := .int (I e1)) l1 (by decide) (Or.inl rfl)
  have m22 := lk1_n (i := 5) (v := .int (I e1)) l2 (by decide) (Or.inl rfl)
  have m23 := lk1_n (i := 5) (v := .int (I e1)) l3 (by decide) (Or.inl rfl)
  have m24 := lk1_n (i := 5) (v := .int (I e1)) l4 (by decide) (Or.inl rfl)
  have lo2 := lok_so1 (i := 5) (v := .int (I e1)) lo rfl
  refine x_aload_n 446 hK rfl rfl m22 ?_
  refine x_aload_n 447 hK rfl rfl m20 ?_
  refine x_iload 449 hK rfl rfl m24 ?_
  refine x_iconst 450 hK rfl rfl ?_
  refine x_iadd 451 hK rfl rfl ?_
  refine x_scr 452 9 hX rfl rfl rfl (by omega) (by omega) ?_
  refine x_aload_n 453 hK rfl rfl m20 ?_
  refine x_iload 455 hK rfl rfl m24 ?_
  refine x_iconst 456 hK rfl rfl ?_
  refine x_iadd 457 hK rfl rfl ?_
  refine x_scr 458 9 hX rfl rfl rfl (by omega) (by omega) ?_
  refine x_callV 461 hK hmono rfl rfl [.ref 171, .int (I ((xs (t + 1).toNat).toInt)), .int (I ((xs (t + 2).toNat).toInt))] [] rfl rfl (Nat.le_of_ble_eq_true rfl) (Nat.le_of_ble_eq_true rfl) rfl (s171_ hI1) (loX11_mess hI1 hb (r_I _) (r_I _)) ?_
  rintro v3 h3 ⟨⟨e3, rfl⟩, hI3, hF3⟩
  have hC3 := CR_F hF3 (by decide +kernel) hC1
  refine x_istore 463 hK rfl rfl _ rfl ?_
  have m40 := lk1_n (i := 6) (v := .int (I e3)) m20 (by decide) (Or.inl rfl)
  have m41 := lk1_n (i := 6) (v := .int (I e3)) m21 (by decide) (Or.inl rfl)
  have m42 := lk1_n (i := 6) (v := .int (I e3)) m22 (by decide) (Or.inl rfl)
  have m43 := lk1_n (i := 6) (v := .int (I e3)) m23 (by decide) (Or.inl rfl)
  have m44 := lk1_n (i := 6) (v := .int (I e3)) m24 (by decide) (Or.inl rfl)
  have lo4 := lok_so1 (i := 6) (v := .int (I e3)) lo2 rfl
  refine x_goto 1583 hK rfl rfl ?_
  exact hE _ _ _ _ m40 m41 m42 m43 m44 lo4 (hI3.mono (by omega)) hC3 (by omega) (by omega)
set_option maxRecDepth 8000 in
theorem lc10 (hK : CLO (CLd SPt 310) ac9L_law (some .boolean) lwQ K) (hX : ∀ (pc : Nat) (ls : List (Nat × Value)) (st : List Value) (h : aH) (bc bs : Nat), lwXR Lx xs K pc ls st h bc bs → K pc ls st h bc bs) {t b : Int} {h : aH} {ls : List (Nat × Value)} {bc bs : Nat} (ht : 0 ≤ t ∧ t + 5 ≤ (Lx : Int)) (hL : Lx ≤ 2560) (hI : INV sh b h) (hC : CR h) (hb : b ≤ 320000) (l0 : lk ls 0 = some (.ref 1000006)) (l1 : lk ls 1 = some (.ref 0)) (l2 : lk ls 2 = some (.ref 171)) (l3 : lk ls 3 = some (.ref 201)) (l4 : lk ls 4 = some (.int (I t))) (lo : lok ls = true) (hbc : 1 ≤ bc) (hbs : 6 ≤ bs)
    (hE : ∀ (ls' : List (Nat × Value)) (h' : aH) (bc' bs' : Nat), lk ls' 0 = some (.ref 1000006) → lk ls' 1 = some (.ref 0) → lk ls' 2 = some (.ref 171) → lk ls' 3 = some (.ref 201) → lk ls' 4 = some (.int (I t)) → lok ls' = true → INV sh (b + 600) h' → CR h' → bc ≤ bc' + 1 → bs ≤ bs' + 6 → K 1583 ls' [] h' bc' bs') : K 466 ls [] h bc bs := by
  have hK := sub_K hK 10 (S := aS10) rfl
  have hmono := MONO_CLd SPt_mono 310
  refine x_aload_n 467 hK rfl rfl l1 ?_
  refine x_aload_n 468 hK rfl rfl l0 ?_
  refine x_iload 470 hK rfl rfl l4 ?_
  refine x_iconst 471 hK rfl rfl ?_
  refine x_iadd 472 hK rfl rfl ?_
  refine x_scr 473 10 hX rfl rfl rfl (by omega) (by omega) ?_
  refine x_aload_n 474 hK rfl rfl l0 ?_
  refine x_iload 476 hK rfl rfl l4 ?_
  refine x_iconst 477 hK rfl rfl ?_
  refine x_iadd 478 hK rfl rfl ?_
  refine x_scr 479 10 hX rfl rfl rfl (by omega) (by omega) ?_
  refine x_aload_n 480 hK rfl rfl l3 ?_
  refine hX _ _ _ _ _ _ (Or.inr (Or.inr (Or.inr (Or.inr (Or.inr (Or.inl ⟨rfl, sh, _, _, hI.1, s201_ hI, r_I _, r_I _, rfl, lok_okv lo (sl_ hI), hbc, hbs, fun v1 h1 hw => ?_⟩))))))
  rcases hw with ⟨hR1, rfl, rfl⟩ | ⟨w1, hR1, rfl, rfl⟩
  · refine x_istore 485 hK rfl rfl _ rfl ?_
    have m2x0 := lk1_n (i := 5) (v := .int (I (1))) l0 (by decide) (Or.inl rfl)
    have m2x1 := lk1_n (i := 5) (v := .int (I (1))) l1 (by decide) (Or.inl rfl)
    have m2x2 := lk1_n (i := 5) (v := .int (I (1))) l2 (by decide) (Or.inl rfl)
    have m2x3 := lk1_n (i := 5) (v := .int (I (1))) l3 (by decide) (Or.inl rfl)
    have m2x4 := lk1_n (i := 5) (v := .int (I (1))) l4 (by decide) (Or.inl rfl)
    have m2x5 : lk (so1 ls 5 (.int (I (1)))) 5 = some (.int (I (1))) := lk1_s
    have lo2 := lok_so1 (i := 5) (v := .int (I (1))) lo rfl
    refine x_aload_n 486 hK rfl rfl m2x2 ?_
    refine x_aload_n 487 hK rfl rfl m2x0 ?_
    refine x_iload 489 hK rfl rfl m2x4 ?_
    refine x_iconst 490 hK rfl rfl ?_
    refine x_iadd 491 hK rfl rfl ?_
    refine x_scr 492 10 hX rfl rfl rfl (by omega) (by omega) ?_
    refine x_aload_n 493 hK rfl rfl m2x0 ?_
    refine x_iload 495 hK rfl rfl m2x4 ?_
    refine x_iconst 496 hK rfl rfl ?_
    refine x_iadd 497 hK rfl rfl ?_
    refine x_scr 498 10 hX rfl rfl rfl (by omega) (by omega) ?_
    refine x_callV 501 hK hmono rfl rfl [.ref 171, .int (I ((xs (t + 1).toNat).toInt)), .int (I ((xs (t + 2).toNat).toInt))] [] rfl rfl (Nat.le_of_ble_eq_true rfl) (Nat.le_of_ble_eq_true rfl) rfl (s171_ hI) (pw_way hI hC (r_I _) (r_I _) hR1) ?_
    rintro v3 h3 ⟨e3, re3, rfl, tn3, tv3, hI3, hC3, hj3⟩
    have t3 := tn3 rfl
    refine x_istore 503 hK rfl rfl _ rfl ?_
    have m4x0 := lk1_n (i := 6) (v := .int (I (e3))) m2x0 (by decide) (Or.inl rfl)
    have m4x1 := lk1_n (i := 6) (v := .int (I (e3))) m2x1 (by decide) (Or.inl rfl)
    have m4x2 := lk1_n (i := 6) (v := .int (I (e3))) m2x2 (by decide) (Or.inl rfl)
    have m4x3 := lk1_n (i := 6) (v := .int (I (e3))) m2x3 (by decide) (Or.inl rfl)
    have m4x4 := lk1_n (i := 6) (v := .int (I (e3))) m2x4 (by decide) (Or.inl rfl)
    have m4x5 := lk1_n (i := 6) (v := .int (I (e3))) m2x5 (by decide) (Or.inl rfl)
    have m4x6 : lk (so1 (so1 ls 5 (.int (I (1)))) 6 (.int (I (e3)))) 6 = some (.int (I (e3))) := lk1_s
    have lo4 := lok_so1 (i := 6) (v := .int (I (e3))) lo2 rfl
    refine x_aload_n 504 hK rfl rfl m4x2 ?_
    refine x_callV 507 hK hmono rfl rfl [.ref 171] [] rfl rfl (Nat.le_of_ble_eq_true rfl) (Nat.le_of_ble_eq_true rfl) rfl (s171_ hI3) (CLd_le (Nat.le_of_ble_eq_true rfl) (ctX11_thrown SPt_mono hI3.1)) ?_
    rintro v5 h5 ⟨rfl, rfl⟩
    rw [t3]
    refine x_iload 509 hK rfl rfl m4x5 ?_
    refine x_if_icmp_eq 514 512 hK rfl rfl rfl (by omega) (by omega) (fun _ => ?_) (fun c9 => absurd (by decide) c9)
    refine x_iload 516 hK rfl rfl m4x5 ?_
    refine x_if_ne 531 519 hK rfl rfl rfl (by omega) (fun _ => ?_) (fun c9 => absurd (by decide) c9)
    refine x_goto 1583 hK rfl rfl ?_
    exact hE _ _ _ _ m4x0 m4x1 m4x2 m4x3 m4x4 lo4 (hI3.mono (by omega)) hC3 (by omega) (by omega)
  · have hI1 := INV_J (a := 201) (k := 0) (v := J w1) hI
    have hC1 := CR_J (v := J w1) hC
    refine x_istore 485 hK rfl rfl _ rfl ?_
    have m6x0 := lk1_n (i := 5) (v := .int (I (0))) l0 (by decide) (Or.inl rfl)
    have m6x1 := lk1_n (i := 5) (v := .int (I (0))) l1 (by decide) (Or.inl rfl)
    have m6x2 := lk1_n (i := 5) (v := .int (I (0))) l2 (by decide) (Or.inl rfl)
    have m6x3 := lk1_n (i := 5) (v := .int (I (0))) l3 (by decide) (Or.inl rfl)
    have m6x4 := lk1_n (i := 5) (v := .int (I (0))) l4 (by decide) (Or.inl rfl)
    have m6x5 : lk (so1 ls 5 (.int (I (0)))) 5 = some (.int (I (0))) := lk1_s
    have lo6 := lok_so1 (i := 5) (v := .int (I (0))) lo rfl
    refine x_aload_n 486 hK rfl rfl m6x2 ?_
    refine x_aload_n 487 hK rfl rfl m6x0 ?_
    refine x_iload 489 hK rfl rfl m6x4 ?_
    refine x_iconst 490 hK rfl rfl ?_
    refine x_iadd 491 hK rfl rfl ?_
    refine x_scr 492 10 hX rfl rfl rfl (by omega) (by omega) ?_
    refine x_aload_n 493 hK rfl rfl m6x0 ?_
    refine x_iload 495 hK rfl rfl m6x4 ?_
    refine x_iconst 496 hK rfl rfl ?_
    refine x_iadd 497 hK rfl rfl ?_
    refine x_scr 498 10 hX rfl rfl rfl (by omega) (by omega) ?_
    refine x_callV 501 hK hmono rfl rfl [.ref 171, .int (I ((xs (t + 1).toNat).toInt)), .int (I ((xs (t + 2).toNat).toInt))] [] rfl rfl (Nat.le_of_ble_eq_true rfl) (Nat.le_of_ble_eq_true rfl) rfl (s171_ hI1) (pw_way hI1 hC1 (r_I _) (r_I _) hR1) ?_
    rintro v7 h7 ⟨e7, re7, rfl, tn7, tv7, hI7, hC7, hj7⟩
    obtain ⟨t7, ev7⟩ := tv7 _ rfl
    have q7 : r64 e7 := by omega
    have jj7 : (aJ h7 201 0).toInt = e7 := hj7.trans (by rw [ev7]; exact gj_same q7)
    refine x_istore 503 hK rfl rfl _ rfl ?_
    have m8x0 := lk1_n (i := 6) (v := .int (I (e7))) m6x0 (by decide) (Or.inl rfl)
    have m8x1 := lk1_n (i := 6) (v := .int (I (e7))) m6x1 (by decide) (Or.inl rfl)
    have m8x2 := lk1_n (i := 6) (v := .int (I (e7))) m6x2 (by decide) (Or.inl rfl)
    have m8x3 := lk1_n (i := 6) (v := .int (I (e7))) m6x3 (by decide) (Or.inl rfl)
    have m8x4 := lk1_n (i := 6) (v := .int (I (e7))) m6x4 (by decide) (Or.inl rfl)
    have m8x5 := lk1_n (i := 6) (v := .int (I (e7))) m6x5 (by decide) (Or.inl rfl)
    have m8x6 : lk (so1 (so1 ls 5 (.int (I (0)))) 6 (.int (I (e7)))) 6 = some (.int (I (e7))) := lk1_s
    have lo8 := lok_so1 (i := 6) (v := .int (I (e7))) lo6 rfl
    refine x_aload_n 504 hK rfl rfl m8x2 ?_
    refine x_callV 507 hK hmono rfl rfl [.ref 171] [] rfl rfl (Nat.le_of_ble_eq_true rfl) (Nat.le_of_ble_eq_true rfl) rfl (s171_ hI7) (CLd_le (Nat.le_of_ble_eq_true rfl) (ctX11_thrown SPt_mono hI7.1)) ?_
    rintro v9 h9 ⟨rfl, rfl⟩
    rw [t7]
    refine x_iload 509 hK rfl rfl m8x5 ?_
    refine x_if_icmp_eq 514 512 hK rfl rfl rfl (by omega) (by omega) (fun _ => ?_) (fun c9 => absurd (by decide) c9)
    refine x_iload 516 hK rfl rfl m8x5 ?_
    refine x_if_ne 531 519 hK rfl rfl rfl (by omega) (fun c9 => absurd c9 (by decide)) (fun _ => ?_)
    refine x_aload_n 520 hK rfl rfl m8x3 ?_
    refine x_iconst 521 hK rfl rfl ?_
    refine x_laload (n := 1) 522 hK rfl rfl (s201_ hI7) (by omega) (by omega) (by omega) ?_
    rw [show (0 : Int).toNat = 0 from rfl, jj7]
    refine x_iload 524 hK rfl rfl m8x6 ?_
    refine x_i2l 525 hK rfl rfl re7 ?_
    refine x_lcmp 526 hK rfl rfl q7 q7 ?_
    rw [if_neg (Int.lt_irrefl _), if_neg (Int.lt_irrefl _)]
    refine x_if_eq 531 529 hK rfl rfl rfl (by omega) (fun _ => ?_) (fun c9 => absurd (by decide) c9)
    refine x_goto 1583 hK rfl rfl ?_
    exact hE _ _ _ _ m8x0 m8x1 m8x2 m8x3 m8x4 lo8 (hI7.mono (by omega)) hC7 (by omega) (by omega)
set_option maxRecDepth 8000 in
theorem lc11 (hK : CLO (CLd SPt 310) ac9L_law (some .boolean) lwQ K) (hX : ∀ (pc : Nat) (ls : List (Nat × Value)) (st : List Value) (h : aH) (bc bs : Nat), lwXR Lx xs K pc ls st h bc bs → K pc ls st h bc bs) {t b : Int} {h : aH} {ls : List (Nat × Value)} {bc bs : Nat} (ht : 0 ≤ t ∧ t + 5 ≤ (Lx : Int)) (hL : Lx ≤ 2560) (hI : INV sh b h) (hC : CR h) (hb : b ≤ 320000) (l0 : lk ls 0 = some (.ref 1000006)) (l1 : lk ls 1 = some (.ref 0)) (l2 : lk ls 2 = some (.ref 171)) (l3 : lk ls 3 = some (.ref 201)) (l4 : lk ls 4 = some (.int (I t))) (lo : lok ls = true) (hbc : 1 ≤ bc) (hbs : 6 ≤ bs)
    (hE : ∀ (ls' : List (Nat × Value)) (h' : aH) (bc' bs' : Nat), lk ls' 0 = some (.ref 1000006) → lk ls' 1 = some (.ref 0) → lk ls' 2 = some (.ref 171) → lk ls' 3 = some (.ref 201) → lk ls' 4 = some (.int (I t)) → lok ls' = true → INV sh (b + 600) h' → CR h' → bc ≤ bc' + 1 → bs ≤ bs' + 6 → K 1583 ls' [] h' bc' bs') : K 534 ls [] h bc bs := by
  have hK := sub_K hK 11 (S := aS11) rfl
  have hmono := MONO_CLd SPt_mono 310
  refine x_aload_n 535 hK rfl rfl l1 ?_
  refine x_aload_n 536 hK rfl rfl l0 ?_
  refine x_iload 538 hK rfl rfl l4 ?_
  refine x_iconst 539 hK rfl rfl ?_
  refine x_iadd 540 hK rfl rfl ?_
  refine x_scr 541 11 hX rfl rfl rfl (by omega) (by omega) ?_
  refine x_aload_n 542 hK rfl rfl l0 ?_
  refine x_iload 544 hK rfl rfl l4 ?_
  refine x_iconst 545 hK rfl rfl ?_
  refine x_iadd 546 hK rfl rfl ?_
  refine x_scr 547 11 hX rfl rfl rfl (by omega) (by omega) ?_
  refine x_aload_n 548 hK rfl rfl l0 ?_
  refine x_iload 550 hK rfl rfl l4 ?_
  refine x_iconst 551 hK rfl rfl ?_
  refine x_iadd 552 hK rfl rfl ?_
  refine x_scr 553 11 hX rfl rfl rfl (by omega) (by omega) ?_
  refine x_aload_n 554 hK rfl rfl l0 ?_
  refine x_iload 556 hK rfl rfl l4 ?_
  refine x_iconst 557 hK rfl rfl ?_
  refine x_iadd 558 hK rfl rfl ?_
  refine x_scr 559 11 hX rfl rfl rfl (by omega) (by omega) ?_
  refine x_callV 562 hK hmono rfl rfl [.ref 0, .int (I ((xs (t + 1).toNat).toInt)), .int (I ((xs (t + 2).toNat).toInt)), .int (I ((xs (t + 3).toNat).toInt)), .int (I ((xs (t + 4).toNat).toInt))] [] rfl rfl (Nat.le_of_ble_eq_true rfl) (Nat.le_of_ble_eq_true rfl) rfl (s0_ hI) (pr_sheet hI hC hb (r_I _) (r_I _) (r_I _) (r_I _)) ?_
  rintro v1 h1 ⟨e1, re1, rfl, hG1, cl1⟩
  refine x_pop 563 hK rfl rfl rfl ?_
  refine x_aload_n 564 hK rfl rfl l2 ?_
  refine x_aload_n 565 hK rfl rfl l0 ?_
  refine x_iload 567 hK rfl rfl l4 ?_
  refine x_iconst 568 hK rfl rfl ?_
  refine x_iadd 569 hK rfl rfl ?_
  refine x_scr 570 11 hX rfl rfl rfl (by omega) (by omega) ?_
  refine x_aload_n 571 hK rfl rfl l0 ?_
  refine x_iload 573 hK rfl rfl l4 ?_
  refine x_iconst 574 hK rfl rfl ?_
  refine x_iadd 575 hK rfl rfl ?_
  refine x_scr 576 11 hX rfl rfl rfl (by omega) (by omega) ?_
  refine x_aload_n 577 hK rfl rfl l0 ?_
  refine x_iload 579 hK rfl rfl l4 ?_
  refine x_iconst 580 hK rfl rfl ?_
  refine x_iadd 581 hK rfl rfl ?_
  refine x_scr 582 11 hX rfl rfl rfl (by omega) (by omega) ?_
  refine x_aload_n 583 hK rfl rfl l0 ?_
  refine x_iload 585 hK rfl rfl l4 ?_
  refine x_iconst 586 hK rfl rfl ?_
  refine x_iadd 587 hK rfl rfl ?_
  refine x_scr 588 11 hX rfl rfl rfl (by omega) (by omega) ?_
  refine x_callV 591 hK hmono rfl rfl [.ref 171, .int (I ((xs (t + 1).toNat).toInt)), .int (I ((xs (t + 2).toNat).toInt)), .int (I ((xs (t + 3).toNat).toInt)), .int (I ((xs (t + 4).toNat).toInt))] [] rfl rfl (Nat.le_of_ble_eq_true rfl) (Nat.le_of_ble_eq_true rfl) rfl (s171g_ hG1) cl1 ?_
  rintro v2 h2 ⟨e2, re2, rfl, ee2, hI2, hC2⟩
  refine x_pop 592 hK rfl rfl rfl ?_
  refine x_goto 1583 hK rfl rfl ?_
  exact hE _ _ _ _ l0 l1 l2 l3 l4 lo (hI2.mono (by omega)) hC2 (by omega) (by omega)
set_option maxRecDepth 8000 in
theorem lc12 (hK : CLO (CLd SPt 310) ac9L_law (some .boolean) lwQ K) (hX : ∀ (pc : Nat) (ls : List (Nat × Value)) (st : List Value) (h : aH) (bc bs : Nat), lwXR Lx xs K pc ls st h bc bs → K pc ls st h bc bs) {t b : Int} {h : aH} {ls : List (Nat × Value)} {bc bs : Nat} (ht : 0 ≤ t ∧ t + 5 ≤ (Lx : Int)) (hL : Lx ≤ 2560) (hI : INV sh b h) (hC : CR h) (hb : b ≤ 320000) (l0 : lk ls 0 = some (.ref 1000006)) (l1 : lk ls 1 = some (.ref 0)) (l2 : lk ls 2 = some (.ref 171)) (l3 : lk ls 3 = some (.ref 201)) (l4 : lk ls 4 = some (.int (I t))) (lo : lok ls = true) (hbc : 1 ≤ bc) (hbs : 6 ≤ bs)
    (hE : ∀ (ls' : List (Nat × Value)) (h' : aH) (bc' bs' : Nat), lk ls' 0 = some (.ref 1000006) → lk ls' 1 = some (.ref 0) → lk ls' 2 = some (.ref 171) → lk ls' 3 = some (.ref 201) → lk ls' 4 = some (.int (I t)) → lok ls' = true → INV sh (b + 600) h' → CR h' → bc ≤ bc' + 1 → bs ≤ bs' + 6 → K 1583 ls' [] h' bc' bs') : K 595 ls [] h bc bs := by
  have hK := sub_K hK 12 (S := aS12) rfl
  have hmono := MONO_CLd SPt_mono 310
  refine x_aload_n 596 hK rfl rfl l1 ?_
  refine x_callV 599 hK hmono rfl rfl [.ref 0] [] rfl rfl (Nat.le_of_ble_eq_true rfl) (Nat.le_of_ble_eq_true rfl) rfl (s0_ hI) (pr_delay hI hC hb ) ?_
  rintro v1 h1 ⟨e1, re1, rfl, hG1, cl1⟩
  refine x_pop 600 hK rfl rfl rfl ?_
  refine x_aload_n 601 hK rfl rfl l2 ?_
  refine x_callV 604 hK hmono rfl rfl [.ref 171] [] rfl rfl (Nat.le_of_ble_eq_true rfl) (Nat.le_of_ble_eq_true rfl) rfl (s171g_ hG1) cl1 ?_
  rintro v2 h2 ⟨e2, re2, rfl, ee2, hI2, hC2⟩
  refine x_pop 605 hK rfl rfl rfl ?_
  refine x_goto 1583 hK rfl rfl ?_
  exact hE _ _ _ _ l0 l1 l2 l3 l4 lo (hI2.mono (by omega)) hC2 (by omega) (by omega)
set_option maxRecDepth 8000 in
theorem lc13 (hK : CLO (CLd SPt 310) ac9L_law (some .boolean) lwQ K) (hX : ∀ (pc : Nat) (ls : List (Nat × Value)) (st : List Value) (h : aH) (bc bs : Nat), lwXR Lx xs K pc ls st h bc bs → K pc ls st h bc bs) {t b : Int} {h : aH} {ls : List (Nat × Value)} {bc bs : Nat} (ht : 0 ≤ t ∧ t + 5 ≤ (Lx : Int)) (hL : Lx ≤ 2560) (hI : INV sh b h) (hC : CR h) (hb : b ≤ 320000) (l0 : lk ls 0 = some (.ref 1000006)) (l1 : lk ls 1 = some (.ref 0)) (l2 : lk ls 2 = some (.ref 171)) (l3 : lk ls 3 = some (.ref 201)) (l4 : lk ls 4 = some (.int (I t))) (lo : lok ls = true) (hbc : 1 ≤ bc) (hbs : 6 ≤ bs)
    (hE : ∀ (ls' : List (Nat × Value)) (h' : aH) (bc' bs' : Nat), lk ls' 0 = some (.ref 1000006) → lk ls' 1 = some (.ref 0) → lk ls' 2 = some (.ref 171) → lk ls' 3 = some (.ref 201) → lk ls' 4 = some (.int (I t)) → lok ls' = true → INV sh (b + 600) h' → CR h' → bc ≤ bc' + 1 → bs ≤ bs' + 6 → K 1583 ls' [] h' bc' bs') : K 608 ls [] h bc bs := by
  have hK := sub_K hK 13 (S := aS13) rfl
  have hmono := MONO_CLd SPt_mono 310
  refine x_aload_n 609 hK rfl rfl l1 ?_
  refine x_aload_n 610 hK rfl rfl l0 ?_
  refine x_iload 612 hK rfl rfl l4 ?_
  refine x_iconst 613 hK rfl rfl ?_
  refine x_iadd 614 hK rfl rfl ?_
  refine x_scr 615 13 hX rfl rfl rfl (by omega) (by omega) ?_
  refine x_callV 618 hK hmono rfl rfl [.ref 0, .int (I ((xs (t + 1).toNat).toInt))] [] rfl rfl (Nat.le_of_ble_eq_true rfl) (Nat.le_of_ble_eq_true rfl) rfl (s0_ hI) (pr_order hI hC hb (r_I _)) ?_
  rintro v1 h1 ⟨e1, re1, rfl, hG1, cl1⟩
  refine x_pop 619 hK rfl rfl rfl ?_
  refine x_aload_n 620 hK rfl rfl l2 ?_
  refine x_aload_n 621 hK rfl rfl l0 ?_
  refine x_iload 623 hK rfl rfl l4 ?_
  refine x_iconst 624 hK rfl rfl ?_
  refine x_iadd 625 hK rfl rfl ?_
  refine x_scr 626 13 hX rfl rfl rfl (by omega) (by omega) ?_
  refine x_callV 629 hK hmono rfl rfl [.ref 171, .int (I ((xs (t + 1).toNat).toInt))] [] rfl rfl (Nat.le_of_ble_eq_true rfl) (Nat.le_of_ble_eq_true rfl) rfl (s171g_ hG1) cl1 ?_
  rintro v2 h2 ⟨e2, re2, rfl, ee2, hI2, hC2⟩
  refine x_pop 630 hK rfl rfl rfl ?_
  refine x_goto 1583 hK rfl rfl ?_
  exact hE _ _ _ _ l0 l1 l2 l3 l4 lo (hI2.mono (by omega)) hC2 (by omega) (by omega)
set_option maxRecDepth 8000 in
theorem lc14 (hK : CLO (CLd SPt 310) ac9L_law (some .boolean) lwQ K) (hX : ∀ (pc : Nat) (ls : List (Nat × Value)) (st : List Value) (h : aH) (bc bs : Nat), lwXR Lx xs K pc ls st h bc bs → K pc ls st h bc bs) {t b : Int} {h : aH} {ls : List (Nat × Value)} {bc bs : Nat} (ht : 0 ≤ t ∧ t + 5 ≤ (Lx : Int)) (hL : Lx ≤ 2560) (hI : INV sh b h) (hC : CR h) (hb : b ≤ 320000) (l0 : lk ls 0 = some (.ref 1000006)) (l1 : lk ls 1 = some (.ref 0)) (l2 : lk ls 2 = some (.ref 171)) (l3 : lk ls 3 = some (.ref 201)) (l4 : lk ls 4 = some (.int (I t))) (lo : lok ls = true) (hbc : 1 ≤ bc) (hbs : 6 ≤ bs)
    (hE : ∀ (ls' : List (Nat × Value)) (h' : aH) (bc' bs' : Nat), lk ls' 0 = some (.ref 1000006) → lk ls' 1 = some (.ref 0) → lk ls' 2 = some (.ref 171) → lk ls' 3 = some (.ref 201) → lk ls' 4 = some (.int (I t)) → lok ls' = true → INV sh (b + 600) h' → CR h' → bc ≤ bc' + 1 → bs ≤ bs' + 6 → K 1583 ls' [] h' bc' bs') : K 633 ls [] h bc bs := by
  have hK := sub_K hK 14 (S := aS14) rfl
  have hmono := MONO_CLd SPt_mono 310
  refine x_aload_n 634 hK rfl rfl l1 ?_
  refine x_aload_n 635 hK rfl rfl l0 ?_
  refine x_iload 637 hK rfl rfl l4 ?_
  refine x_iconst 638 hK rfl rfl ?_
  refine x_iadd 639 hK rfl rfl ?_
  refine x_scr 640 14 hX rfl rfl rfl (by omega) (by omega) ?_
  refine x_aload_n 641 hK rfl rfl l0 ?_
  refine x_iload 643 hK rfl rfl l4 ?_
  refine x_iconst 644 hK rfl rfl ?_
  refine x_iadd 645 hK rfl rfl ?_
  refine x_scr 646 14 hX rfl rfl rfl (by omega) (by omega) ?_
  refine x_aload_n 647 hK rfl rfl l0 ?_
  refine x_iload 649 hK rfl rfl l4 ?_
  refine x_iconst 650 hK rfl rfl ?_
  refine x_iadd 651 hK rfl rfl ?_
  refine x_scr 652 14 hX rfl rfl rfl (by omega) (by omega) ?_
  refine x_callV 655 hK hmono rfl rfl [.ref 0, .int (I ((xs (t + 1).toNat).toInt)), .int (I ((xs (t + 2).toNat).toInt)), .int (I ((xs (t + 3).toNat).toInt))] [] rfl rfl (Nat.le_of_ble_eq_true rfl) (Nat.le_of_ble_eq_true rfl) rfl (s0_ hI) (pr_pass hI hC hb (r_I _) (r_I _) (r_I _)) ?_
  rintro v1 h1 ⟨e1, re1, rfl, hG1, cl1⟩
  refine x_pop 656 hK rfl rfl rfl ?_
  refine x_aload_n 657 hK rfl rfl l2 ?_
  refine x_aload_n 658 hK rfl rfl l0 ?_
  refine x_iload 660 hK rfl rfl l4 ?_
  refine x_iconst 661 hK rfl rfl ?_
  refine x_iadd 662 hK rfl rfl ?_
  refine x_scr 663 14 hX rfl rfl rfl (by omega) (by omega) ?_
  refine x_aload_n 664 hK rfl rfl l0 ?_
  refine x_iload 666 hK rfl rfl l4 ?_
  refine x_iconst 667 hK rfl rfl ?_
  refine x_iadd 668 hK rfl rfl ?_
  refine x_scr 669 14 hX rfl rfl rfl (by omega) (by omega) ?_
  refine x_aload_n 670 hK rfl rfl l0 ?_
  refine x_iload 672 hK rfl rfl l4 ?_
  refine x_iconst 673 hK rfl rfl ?_
  refine x_iadd 674 hK rfl rfl ?_
  refine x_scr 675 14 hX rfl rfl rfl (by omega) (by omega) ?_
  refine x_callV 678 hK hmono rfl rfl [.ref 171, .int (I ((xs (t + 1).toNat).toInt)), .int (I ((xs (t + 2).toNat).toInt)), .int (I ((xs (t + 3).toNat).toInt))] [] rfl rfl (Nat.le_of_ble_eq_true rfl) (Nat.le_of_ble_eq_true rfl) rfl (s171g_ hG1) cl1 ?_
  rintro v2 h2 ⟨e2, re2, rfl, ee2, hI2, hC2⟩
  refine x_pop 679 hK rfl rfl rfl ?_
  refine x_goto 1583 hK rfl rfl ?_
  exact hE _ _ _ _ l0 l1 l2 l3 l4 lo (hI2.mono (by omega)) hC2 (by omega) (by omega)
set_option maxRecDepth 8000 in
theorem lc15 (hK : CLO (CLd SPt 310) ac9L_law (some .boolean) lwQ K) (hX : ∀ (pc : Nat) (ls : List (Nat × Value)) (st : List Value) (h : aH) (bc bs : Nat), lwXR Lx xs K pc ls st h bc bs → K pc ls st h bc bs) {t b : Int} {h : aH} {ls : List (Nat × Value)} {bc bs : Nat} (ht : 0 ≤ t ∧ t + 5 ≤ (Lx : Int)) (hL : Lx ≤ 2560) (hI : INV sh b h) (hC : CR h) (hb : b ≤ 320000) (l0 : lk ls 0 = some (.ref 1000006)) (l1 : lk ls 1 = some (.ref 0)) (l2 : lk ls 2 = some (.ref 171)) (l3 : lk ls 3 = some (.ref 201)) (l4 : lk ls 4 = some (.int (I t))) (lo : lok ls = true) (hbc : 1 ≤ bc) (hbs : 6 ≤ bs)
    (hE : ∀ (ls' : List (Nat × Value)) (h' : aH) (bc' bs' : Nat), lk ls' 0 = some (.ref 1000006) → lk ls' 1 = some (.ref 0) → lk ls' 2 = some (.ref 171) → lk ls' 3 = some (.ref 201) → lk ls' 4 = some (.int (I t)) → lok ls' = true → INV sh (b + 600) h' → CR h' → bc ≤ bc' + 1 → bs ≤ bs' + 6 → K 1583 ls' [] h' bc' bs') : K 682 ls [] h bc bs := by
  have hK := sub_K hK 15 (S := aS15) rfl
  have hmono := MONO_CLd SPt_mono 310
  refine x_aload_n 683 hK rfl rfl l1 ?_
  refine x_aload_n 684 hK rfl rfl l0 ?_
  refine x_iload 686 hK rfl rfl l4 ?_
  refine x_iconst 687 hK rfl rfl ?_
  refine x_iadd 688 hK rfl rfl ?_
  refine x_scr 689 15 hX rfl rfl rfl (by omega) (by omega) ?_
  refine x_aload_n 690 hK rfl rfl l0 ?_
  refine x_iload 692 hK rfl rfl l4 ?_
  refine x_iconst 693 hK rfl rfl ?_
  refine x_iadd 694 hK rfl rfl ?_
  refine x_scr 695 15 hX rfl rfl rfl (by omega) (by omega) ?_
  refine x_callV 698 hK hmono rfl rfl [.ref 0, .int (I ((xs (t + 1).toNat).toInt)), .int (I ((xs (t + 2).toNat).toInt))] [] rfl rfl (Nat.le_of_ble_eq_true rfl) (Nat.le_of_ble_eq_true rfl) rfl (s0_ hI) (pr_cook hI hC hb (r_I _) (r_I _)) ?_
  rintro v1 h1 ⟨e1, re1, rfl, hG1, cl1⟩
  refine x_pop 699 hK rfl rfl rfl ?_
  refine x_aload_n 700 hK rfl rfl l2 ?_
  refine x_aload_n 701 hK rfl rfl l0 ?_
  refine x_iload 703 hK rfl rfl l4 ?_
  refine x_iconst 704 hK rfl rfl ?_
  refine x_iadd 705 hK rfl rfl ?_
  refine x_scr 706 15 hX rfl rfl rfl (by omega) (by omega) ?_
  refine x_aload_n 707 hK rfl rfl l0 ?_
  refine x_iload 709 hK rfl rfl l4 ?_
  refine x_iconst 710 hK rfl rfl ?_
  refine x_iadd 711 hK rfl rfl ?_
  refine x_scr 712 15 hX rfl rfl rfl (by omega) (by omega) ?_
  refine x_callV 715 hK hmono rfl rfl [.ref 171, .int (I ((xs (t + 1).toNat).toInt)), .int (I ((xs (t + 2).toNat).toInt))] [] rfl rfl (Nat.le_of_ble_eq_true rfl) (Nat.le_of_ble_eq_true rfl) rfl (s171g_ hG1) cl1 ?_
  rintro v2 h2 ⟨e2, re2, rfl, ee2, hI2, hC2⟩
  refine x_pop 716 hK rfl rfl rfl ?_
  refine x_goto 1583 hK rfl rfl ?_
  exact hE _ _ _ _ l0 l1 l2 l3 l4 lo (hI2.mono (by omega)) hC2 (by omega) (by omega)
set_option maxRecDepth 8000 in
theorem lc16 (hK : CLO (CLd SPt 310) ac9L_law (some .boolean) lwQ K) (hX : ∀ (pc : Nat) (ls : List (Nat × Value)) (st : List Value) (h : aH) (bc bs : Nat), lwXR Lx xs K pc ls st h bc bs → K pc ls st h bc bs) {t b : Int} {h : aH} {ls : List (Nat × Value)} {bc bs : Nat} (ht : 0 ≤ t ∧ t + 5 ≤ (Lx : Int)) (hL : Lx ≤ 2560) (hI : INV sh b h) (hC : CR h) (hb : b ≤ 320000) (l0 : lk ls 0 = some (.ref 1000006)) (l1 : lk ls 1 = some (.ref 0)) (l2 : lk ls 2 = some (.ref 171)) (l3 : lk ls 3 = some (.ref 201)) (l4 : lk ls 4 = some (.int (I t))) (lo : lok ls = true) (hbc : 1 ≤ bc) (hbs : 6 ≤ bs)
    (hE : ∀ (ls' : List (Nat × Value)) (h' : aH) (bc' bs' : Nat), lk ls' 0 = some (.ref 1000006) → lk ls' 1 = some (.ref 0) → lk ls' 2 = some (.ref 171) → lk ls' 3 = some (.ref 201) → lk ls' 4 = some (.int (I t)) → lok ls' = true → INV sh (b + 600) h' → CR h' → bc ≤ bc' + 1 → bs ≤ bs' + 6 → K 1583 ls' [] h' bc' bs') : K 719 ls [] h bc bs := by
  have hK := sub_K hK 16 (S := aS16) rfl
  have hmono := MONO_CLd SPt_mono 310
  refine x_aload_n 720 hK rfl rfl l1 ?_
  refine x_aload_n 721 hK rfl rfl l0 ?_
  refine x_iload 723 hK rfl rfl l4 ?_
  refine x_iconst 724 hK rfl rfl ?_
  refine x_iadd 725 hK rfl rfl ?_
  refine x_scr 726 16 hX rfl rfl rfl (by omega) (by omega) ?_
  refine x_callV 729 hK hmono rfl rfl [.ref 0, .int (I ((xs (t + 1).toNat).toInt))] [] rfl rfl (Nat.le_of_ble_eq_true rfl) (Nat.le_of_ble_eq_true rfl) rfl (s0_ hI) (pr_steps hI hC hb (r_I _)) ?_
  rintro v1 h1 ⟨e1, re1, rfl, hG1, cl1⟩
  refine x_pop 730 hK rfl rfl rfl ?_
  refine x_aload_n 731 hK rfl rfl l2 ?_
  refine x_aload_n 732 hK rfl rfl l0 ?_
  refine x_iload 734 hK rfl rfl l4 ?_
  refine x_iconst 735 hK rfl rfl ?_
  refine x_iadd 736 hK rfl rfl ?_
  refine x_scr 737 16 hX rfl rfl rfl (by omega) (by omega) ?_
  refine x_callV 740 hK hmono rfl rfl [.ref 171, .int (I ((xs (t + 1).toNat).toInt))] [] rfl rfl (Nat.le_of_ble_eq_true rfl) (Nat.le_of_ble_eq_true rfl) rfl (s171g_ hG1) cl1 ?_
  rintro v2 h2 ⟨e2, re2, rfl, ee2, hI2, hC2⟩
  refine x_pop 741 hK rfl rfl rfl ?_
  refine x_goto 1583 hK rfl rfl ?_
  exact hE _ _ _ _ l0 l1 l2 l3 l4 lo (hI2.mono (by omega)) hC2 (by omega) (by omega)
set_option maxRecDepth 8000 in
theorem lc17 (hK : CLO (CLd SPt 310) ac9L_law (some .boolean) lwQ K) (hX : ∀ (pc : Nat) (ls : List (Nat × Value)) (st : List Value) (h : aH) (bc bs : Nat), lwXR Lx xs K pc ls st h bc bs → K pc ls st h bc bs) {t b : Int} {h : aH} {ls : List (Nat × Value)} {bc bs : Nat} (ht : 0 ≤ t ∧ t + 5 ≤ (Lx : Int)) (hL : Lx ≤ 2560) (hI : INV sh b h) (hC : CR h) (hb : b ≤ 320000) (l0 : lk ls 0 = some (.ref 1000006)) (l1 : lk ls 1 = some (.ref 0)) (l2 : lk ls 2 = some (.ref 171)) (l3 : lk ls 3 = some (.ref 201)) (l4 : lk ls 4 = some (.int (I t))) (lo : lok ls = true) (hbc : 1 ≤ bc) (hbs : 6 ≤ bs)
    (hE : ∀ (ls' : List (Nat × Value)) (h' : aH) (bc' bs' : Nat), lk ls' 0 = some (.ref 1000006) → lk ls' 1 = some (.ref 0) → lk ls' 2 = some (.ref 171) → lk ls' 3 = some (.ref 201) → lk ls' 4 = some (.int (I t)) → lok ls' = true → INV sh (b + 600) h' → CR h' → bc ≤ bc' + 1 → bs ≤ bs' + 6 → K 1583 ls' [] h' bc' bs') : K 744 ls [] h bc bs := by
  have hK := sub_K hK 17 (S := aS17) rfl
  have hmono := MONO_CLd SPt_mono 310
  refine x_aload_n 745 hK rfl rfl l1 ?_
  refine x_callV 748 hK hmono rfl rfl [.ref 0] [] rfl rfl (Nat.le_of_ble_eq_true rfl) (Nat.le_of_ble_eq_true rfl) rfl (s0_ hI) (pr_voyage hI hC hb ) ?_
  rintro v1 h1 ⟨e1, re1, rfl, hG1, cl1⟩
  refine x_pop 749 hK rfl rfl rfl ?_
  refine x_aload_n 750 hK rfl rfl l2 ?_
  refine x_callV 753 hK hmono rfl rfl [.ref 171] [] rfl rfl (Nat.le_of_ble_eq_true rfl) (Nat.le_of_ble_eq_true rfl) rfl (s171g_ hG1) cl1 ?_
  rintro v2 h2 ⟨e2, re2, rfl, ee2, hI2, hC2⟩
  refine x_pop 754 hK rfl rfl rfl ?_
  refine x_goto 1583 hK rfl rfl ?_
  exact hE _ _ _ _ l0 l1 l2 l3 l4 lo (hI2.mono (by omega)) hC2 (by omega) (by omega)
set_option maxRecDepth 8000 in
theorem lc18 (hK : CLO (CLd SPt 310) ac9L_law (some .boolean) lwQ K) (hX : ∀ (pc : Nat) (ls : List (Nat × Value)) (st : List Value) (h : aH) (bc bs : Nat), lwXR Lx xs K pc ls st h bc bs → K pc ls st h bc bs) {t b : Int} {h : aH} {ls : List (Nat × Value)} {bc bs : Nat} (ht : 0 ≤ t ∧ t + 5 ≤ (Lx : Int)) (hL : Lx ≤ 2560) (hI : INV sh b h) (hC : CR h) (hb : b ≤ 320000) (l0 : lk ls 0 = some (.ref 1000006)) (l1 : lk ls 1 = some (.ref 0)) (l2 : lk ls 2 = some (.ref 171)) (l3 : lk ls 3 = some (.ref 201)) (l4 : lk ls 4 = some (.int (I t))) (lo : lok ls = true) (hbc : 1 ≤ bc) (hbs : 6 ≤ bs)
    (hE : ∀ (ls' : List (Nat × Value)) (h' : aH) (bc' bs' : Nat), lk ls' 0 = some (.ref 1000006) → lk ls' 1 = some (.ref 0) → lk ls' 2 = some (.ref 171) → lk ls' 3 = some (.ref 201) → lk ls' 4 = some (.int (I t)) → lok ls' = true → INV sh (b + 600) h' → CR h' → bc ≤ bc' + 1 → bs ≤ bs' + 6 → K 1583 ls' [] h' bc' bs') : K 757 ls [] h bc bs := by
  have hK := sub_K hK 18 (S := aS18) rfl
  have hmono := MONO_CLd SPt_mono 310
  refine x_aload_n 758 hK rfl rfl l1 ?_
  refine x_callV 761 hK hmono rfl rfl [.ref 0] [] rfl rfl (Nat.le_of_ble_eq_true rfl) (Nat.le_of_ble_eq_true rfl) rfl (s0_ hI) (pr_undo hI hC hb ) ?_
  rintro v1 h1 ⟨e1, re1, rfl, hG1, cl1⟩
  refine x_pop 762 hK rfl rfl rfl ?_
  refine x_aload_n 763 hK rfl rfl l2 ?_
  refine x_callV 766 hK hmono rfl rfl [.ref 171] [] rfl rfl (Nat.le_of_ble_eq_true rfl) (Nat.le_of_ble_eq_true rfl) rfl (s171g_ hG1) cl1 ?_
  rintro v2 h2 ⟨e2, re2, rfl, ee2, hI2, hC2⟩
  refine x_pop 767 hK rfl rfl rfl ?_
  refine x_goto 1583 hK rfl rfl ?_
  exact hE _ _ _ _ l0 l1 l2 l3 l4 lo (hI2.mono (by omega)) hC2 (by omega) (by omega)
set_option maxRecDepth 8000 in
theorem lc19 (hK : CLO (CLd SPt 310) ac9L_law (some .boolean) lwQ K) (hX : ∀ (pc : Nat) (ls : List (Nat × Value)) (st : List Value) (h : aH) (bc bs : Nat), lwXR Lx xs K pc ls st h bc bs → K pc ls st h bc bs) {t b : Int} {h : aH} {ls : List (Nat × Value)} {bc bs : Nat} (ht : 0 ≤ t ∧ t + 5 ≤ (Lx : Int)) (hL : Lx ≤ 2560) (hI : INV sh b h) (hC : CR h) (hb : b ≤ 320000) (l0 : lk ls 0 = some (.ref 1000006)) (l1 : lk ls 1 = some (.ref 0)) (l2 : lk ls 2 = some (.ref 171)) (l3 : lk ls 3 = some (.ref 201)) (l4 : lk ls 4 = some (.int (I t))) (lo : lok ls = true) (hbc : 1 ≤ bc) (hbs : 6 ≤ bs)
    (hE : ∀ (ls' : List (Nat × Value)) (h' : aH) (bc' bs' : Nat), lk ls' 0 = some (.ref 1000006) → lk ls' 1 = some (.ref 0) → lk ls' 2 = some (.ref 171) → lk ls' 3 = some (.ref 201) → lk ls' 4 = some (.int (I t)) → lok ls' = true → INV sh (b + 600) h' → CR h' → bc ≤ bc' + 1 → bs ≤ bs' + 6 → K 1583 ls' [] h' bc' bs') : K 770 ls [] h bc bs := by
  have hK := sub_K hK 19 (S := aS19) rfl
  have hmono := MONO_CLd SPt_mono 310
  refine x_aload_n 771 hK rfl rfl l1 ?_
  refine x_aload_n 772 hK rfl rfl l0 ?_
  refine x_iload 774 hK rfl rfl l4 ?_
  refine x_iconst 775 hK rfl rfl ?_
  refine x_iadd 776 hK rfl rfl ?_
  refine x_scr 777 19 hX rfl rfl rfl (by omega) (by omega) ?_
  refine x_callV 780 hK hmono rfl rfl [.ref 0, .int (I ((xs (t + 1).toNat).toInt))] [] rfl rfl (Nat.le_of_ble_eq_true rfl) (Nat.le_of_ble_eq_true rfl) rfl (s0_ hI) (pr_lane hI hC hb (r_I _)) ?_
  rintro v1 h1 ⟨e1, re1, rfl, hG1, cl1⟩
  refine x_pop 781 hK rfl rfl rfl ?_
  refine x_aload_n 782 hK rfl rfl l2 ?_
  refine x_aload_n 783 hK rfl rfl l0 ?_
  refine x_iload 785 hK rfl rfl l4 ?_
  refine x_iconst 786 hK rfl rfl ?_
  refine x_iadd 787 hK rfl rfl ?_
  refine x_scr 788 19 hX rfl rfl rfl (by omega) (by omega) ?_
  refine x_callV 791 hK hmono rfl rfl [.ref 171, .int (I ((xs (t + 1).toNat).toInt))] [] rfl rfl (Nat.le_of_ble_eq_true rfl) (Nat.le_of_ble_eq_true rfl) rfl (s171g_ hG1) cl1 ?_
  rintro v2 h2 ⟨e2, re2, rfl, ee2, hI2, hC2⟩
  refine x_pop 792 hK rfl rfl rfl ?_
  refine x_goto 1583 hK rfl rfl ?_
  exact hE _ _ _ _ l0 l1 l2 l3 l4 lo (hI2.mono (by omega)) hC2 (by omega) (by omega)
set_option maxRecDepth 8000 in
theorem lc20 (hK : CLO (CLd SPt 310) ac9L_law (some .boolean) lwQ K) (hX : ∀ (pc : Nat) (ls : List (Nat × Value)) (st : List Value) (h : aH) (bc bs : Nat), lwXR Lx xs K pc ls st h bc bs → K pc ls st h bc bs) {t b : Int} {h : aH} {ls : List (Nat × Value)} {bc bs : Nat} (ht : 0 ≤ t ∧ t + 5 ≤ (Lx : Int)) (hL : Lx ≤ 2560) (hI : INV sh b h) (hC : CR h) (hb : b ≤ 320000) (l0 : lk ls 0 = some (.ref 1000006)) (l1 : lk ls 1 = some (.ref 0)) (l2 : lk ls 2 = some (.ref 171)) (l3 : lk ls 3 = some (.ref 201)) (l4 : lk ls 4 = some (.int (I t))) (lo : lok ls = true) (hbc : 1 ≤ bc) (hbs : 6 ≤ bs)
    (hE : ∀ (ls' : List (Nat × Value)) (h' : aH) (bc' bs' : Nat), lk ls' 0 = some (.ref 1000006) → lk ls' 1 = some (.ref 0) → lk ls' 2 = some (.ref 171) → lk ls' 3 = some (.ref 201) → lk ls' 4 = some (.int (I t)) → lok ls' = true → INV sh (b + 600) h' → CR h' → bc ≤ bc' + 1 → bs ≤ bs' + 6 → K 1583 ls' [] h' bc' bs') : K 795 ls [] h bc bs := by
  have hK := sub_K hK 20 (S := aS20) rfl
  have hmono := MONO_CLd SPt_mono 310
  refine x_aload_n 796 hK rfl rfl l1 ?_
  refine x_callV 799 hK hmono rfl rfl [.ref 0] [] rfl rfl (Nat.le_of_ble_eq_true rfl) (Nat.le_of_ble_eq_true rfl) rfl (s0_ hI) (pr_strikes hI hC hb ) ?_
  rintro v1 h1 ⟨e1, re1, rfl, hG1, cl1⟩
  refine x_pop 800 hK rfl rfl rfl ?_
  refine x_aload_n 801 hK rfl rfl l2 ?_
  refine x_callV 804 hK hmono rfl rfl [.ref 171] [] rfl rfl (Nat.le_of_ble_eq_true rfl) (Nat.le_of_ble_eq_true rfl) rfl (s171g_ hG1) cl1 ?_
  rintro v2 h2 ⟨e2, re2, rfl, ee2, hI2, hC2⟩
  refine x_pop 805 hK rfl rfl rfl ?_
  refine x_goto 1583 hK rfl rfl ?_
  exact hE _ _ _ _ l0 l1 l2 l3 l4 lo (hI2.mono (by omega)) hC2 (by omega) (by omega)
set_option maxRecDepth 8000 in
theorem lc21 (hK : CLO (CLd SPt 310) ac9L_law (some .boolean) lwQ K) (hX : ∀ (pc : Nat) (ls : List (Nat × Value)) (st : List Value) (h : aH) (bc bs : Nat), lwXR Lx xs K pc ls st h bc bs → K pc ls st h bc bs) {t b : Int} {h : aH} {ls : List (Nat × Value)} {bc bs : Nat} (ht : 0 ≤ t ∧ t + 5 ≤ (Lx : Int)) (hL : Lx ≤ 2560) (hI : INV sh b h) (hC : CR h) (hb : b ≤ 320000) (l0 : lk ls 0 = some (.ref 1000006)) (l1 : lk ls 1 = some (.ref 0)) (l2 : lk ls 2 = some (.ref 171)) (l3 : lk ls 3 = some (.ref 201)) (l4 : lk ls 4 = some (.int (I t))) (lo : lok ls = true) (hbc : 1 ≤ bc) (hbs : 6 ≤ bs)
    (hE : ∀ (ls' : List (Nat × Value)) (h' : aH) (bc' bs' : Nat), lk ls' 0 = some (.ref 1000006) → lk ls' 1 = some (.ref 0) → lk ls' 2 = some (.ref 171) → lk ls' 3 = some (.ref 201) → lk ls' 4 = some (.int (I t)) → lok ls' = true → INV sh (b + 600) h' → CR h' → bc ≤ bc' + 1 → bs ≤ bs' + 6 → K 1583 ls' [] h' bc' bs') : K 808 ls [] h bc bs := by
  have hK := sub_K hK 21 (S := aS21) rfl
  have hmono := MONO_CLd SPt_mono 310
  refine x_aload_n 809 hK rfl rfl l1 ?_
  refine x_callV 812 hK hmono rfl rfl [.ref 0] [] rfl rfl (Nat.le_of_ble_eq_true rfl) (Nat.le_of_ble_eq_true rfl) rfl (s0_ hI) (pr_clears hI hC hb ) ?_
  rintro v1 h1 ⟨e1, re1, rfl, hG1, cl1⟩
  refine x_pop 813 hK rfl rfl rfl ?_
  refine x_aload_n 814 hK rfl rfl l2 ?_
  refine x_callV 817 hK hmono rfl rfl [.ref 171] [] rfl rfl (Nat.le_of_ble_eq_true rfl) (Nat.le_of_ble_eq_true rfl) rfl (s171g_ hG1) cl1 ?_
  rintro v2 h2 ⟨e2, re2, rfl, ee2, hI2, hC2⟩
  refine x_pop 818 hK rfl rfl rfl ?_
  refine x_goto 1583 hK rfl rfl ?_
  exact hE _ _ _ _ l0 l1 l2 l3 l4 lo (hI2.mono (by omega)) hC2 (by omega) (by omega)
set_option maxRecDepth 8000 in
theorem lc22 (hK : CLO (CLd SPt 310) ac9L_law (some .boolean) lwQ K) (hX : ∀ (pc : Nat) (ls : List (Nat × Value)) (st : List Value) (h : aH) (bc bs : Nat), lwXR Lx xs K pc ls st h bc bs → K pc ls st h bc bs) {t b : Int} {h : aH} {ls : List (Nat × Value)} {bc bs : Nat} (ht : 0 ≤ t ∧ t + 5 ≤ (Lx : Int)) (hL : Lx ≤ 2560) (hI : INV sh b h) (hC : CR h) (hb : b ≤ 320000) (l0 : lk ls 0 = some (.ref 1000006)) (l1 : lk ls 1 = some (.ref 0)) (l2 : lk ls 2 = some (.ref 171)) (l3 : lk ls 3 = some (.ref 201)) (l4 : lk ls 4 = some (.int (I t))) (lo : lok ls = true) (hbc : 1 ≤ bc) (hbs : 6 ≤ bs)
    (hE : ∀ (ls' : List (Nat × Value)) (h' : aH) (bc' bs' : Nat), lk ls' 0 = some (.ref 1000006) → lk ls' 1 = some (.ref 0) → lk ls' 2 = some (.ref 171) → lk ls' 3 = some (.ref 201) → lk ls' 4 = some (.int (I t)) → lok ls' = true → INV sh (b + 600) h' → CR h' → bc ≤ bc' + 1 → bs ≤ bs' + 6 → K 1583 ls' [] h' bc' bs') : K 821 ls [] h bc bs := by
  have hK := sub_K hK 22 (S := aS22) rfl
  have hmono := MONO_CLd SPt_mono 310
  refine x_aload_n 822 hK rfl rfl l1 ?_
  refine x_aload_n 823 hK rfl rfl l0 ?_
  refine x_iload 825 hK rfl rfl l4 ?_
  refine x_iconst 826 hK rfl rfl ?_
  refine x_iadd 827 hK rfl rfl ?_
  refine x_scr 828 22 hX rfl rfl rfl (by omega) (by omega) ?_
  refine x_callV 831 hK hmono rfl rfl [.ref 0, .int (I ((xs (t + 1).toNat).toInt))] [] rfl rfl (Nat.le_of_ble_eq_true rfl) (Nat.le_of_ble_eq_true rfl) rfl (s0_ hI) (pr_plan hI hC hb (r_I _)) ?_
  rintro v1 h1 ⟨e1, re1, rfl, hG1, cl1⟩
  refine x_pop 832 hK rfl rfl rfl ?_
  refine x_aload_n 833 hK rfl rfl l2 ?_
  refine x_aload_n 834 hK rfl rfl l0 ?_
  refine x_iload 836 hK rfl rfl l4 ?_
  refine x_iconst 837 hK rfl rfl ?_
  refine x_iadd 838 hK rfl rfl ?_
  refine x_scr 839 22 hX rfl rfl rfl (by omega) (by omega) ?_
  refine x_callV 842 hK hmono rfl rfl [.ref 171, .int (I ((xs (t + 1).toNat).toInt))] [] rfl rfl (Nat.le_of_ble_eq_true rfl) (Nat.le_of_ble_eq_true rfl) rfl (s171g_ hG1) cl1 ?_
  rintro v2 h2 ⟨e2, re2, rfl, ee2, hI2, hC2⟩
  refine x_pop 843 hK rfl rfl rfl ?_
  refine x_goto 1583 hK rfl rfl ?_
  exact hE _ _ _ _ l0 l1 l2 l3 l4 lo (hI2.mono (by omega)) hC2 (by omega) (by omega)
set_option maxRecDepth 8000 in
theorem lc23 (hK : CLO (CLd SPt 310) ac9L_law (some .boolean) lwQ K) (hX : ∀ (pc : Nat) (ls : List (Nat × Value)) (st : List Value) (h : aH) (bc bs : Nat), lwXR Lx xs K pc ls st h bc bs → K pc ls st h bc bs) {t b : Int} {h : aH} {ls : List (Nat × Value)} {bc bs : Nat} (ht : 0 ≤ t ∧ t + 5 ≤ (Lx : Int)) (hL : Lx ≤ 2560) (hI : INV sh b h) (hC : CR h) (hb : b ≤ 320000) (l0 : lk ls 0 = some (.ref 1000006)) (l1 : lk ls 1 = some (.ref 0)) (l2 : lk ls 2 = some (.ref 171)) (l3 : lk ls 3 = some (.ref 201)) (l4 : lk ls 4 = some (.int (I t))) (lo : lok ls = true) (hbc : 1 ≤ bc) (hbs : 6 ≤ bs)
    (hE : ∀ (ls' : List (Nat × Value)) (h' : aH) (bc' bs' : Nat), lk ls' 0 = some (.ref 1000006) → lk ls' 1 = some (.ref 0) → lk ls' 2 = some (.ref 171) → lk ls' 3 = some (.ref 201) → lk ls' 4 = some (.int (I t)) → lok ls' = true → INV sh (b + 600) h' → CR h' → bc ≤ bc' + 1 → bs ≤ bs' + 6 → K 1583 ls' [] h' bc' bs') : K 846 ls [] h bc bs := by
  have hK := sub_K hK 23 (S := aS23) rfl
  have hmono := MONO_CLd SPt_mono 310
  refine x_aload_n 847 hK rfl rfl l1 ?_
  refine x_aload_n 848 hK rfl rfl l0 ?_
  refine x_iload 850 hK rfl rfl l4 ?_
  refine x_iconst 851 hK rfl rfl ?_
  refine x_iadd 852 hK rfl rfl ?_
  refine x_scr 853 23 hX rfl rfl rfl (by omega) (by omega) ?_
  refine x_callV 856 hK hmono rfl rfl [.ref 0, .int (I ((xs (t + 1).toNat).toInt))] [] rfl rfl (Nat.le_of_ble_eq_true rfl) (Nat.le_of_ble_eq_true rfl) rfl (s0_ hI) (pr_latest hI hC hb (r_I _)) ?_
  rintro v1 h1 ⟨e1, re1, rfl, hG1, cl1⟩
  refine x_pop 857 hK rfl rfl rfl ?_
  refine x_aload_n 858 hK rfl rfl l2 ?_
  refine x_aload_n 859 hK rfl rfl l0 ?_
  refine x_iload 861 hK rfl rfl l4 ?_
  refine x_iconst 862 hK rfl rfl ?_
  refine x_iadd 863 hK rfl rfl ?_
  refine x_scr 864 23 hX rfl rfl rfl (by omega) (by omega) ?_
  refine x_callV 867 hK hmono rfl rfl [.ref 171, .int (I ((xs (t + 1).toNat).toInt))] [] rfl rfl (Nat.le_of_ble_eq_true rfl) (Nat.le_of_ble_eq_true rfl) rfl (s171g_ hG1) cl1 ?_
  rintro v2 h2 ⟨e2, re2, rfl, ee2, hI2, hC2⟩
  refine x_pop 868 hK rfl rfl rfl ?_
  refine x_goto 1583 hK rfl rfl ?_
  exact hE _ _ _ _ l0 l1 l2 l3 l4 lo (hI2.mono (by omega)) hC2 (by omega) (by omega)
set_option maxRecDepth 8000 in
theorem lc24 (hK : CLO (CLd SPt 310) ac9L_law (some .boolean) lwQ K) (hX : ∀ (pc : Nat) (ls : List (Nat × Value)) (st : List Value) (h : aH) (bc bs : Nat), lwXR Lx xs K pc ls st h bc bs → K pc ls st h bc bs) {t b : Int} {h : aH} {ls : List (Nat × Value)} {bc bs : Nat} (ht : 0 ≤ t ∧ t + 5 ≤ (Lx : Int)) (hL : Lx ≤ 2560) (hI : INV sh b h) (hC : CR h) (hb : b ≤ 320000) (l0 : lk ls 0 = some (.ref 1000006)) (l1 : lk ls 1 = some (.ref 0)) (l2 : lk ls 2 = some (.ref 171)) (l3 : lk ls 3 = some (.ref 201)) (l4 : lk ls 4 = some (.int (I t))) (lo : lok ls = true) (hbc : 1 ≤ bc) (hbs : 6 ≤ bs)
    (hE : ∀ (ls' : List (Nat × Value)) (h' : aH) (bc' bs' : Nat), lk ls' 0 = some (.ref 1000006) → lk ls' 1 = some (.ref 0) → lk ls' 2 = some (.ref 171) → lk ls' 3 = some (.ref 201) → lk ls' 4 = some (.int (I t)) → lok ls' = true → INV sh (b + 600) h' → CR h' → bc ≤ bc' + 1 → bs ≤ bs' + 6 → K 1583 ls' [] h' bc' bs') : K 871 ls [] h bc bs := by
  have hK := sub_K hK 24 (S := aS24) rfl
  have hmono := MONO_CLd SPt_mono 310
  refine x_aload_n 872 hK rfl rfl l1 ?_
  refine x_aload_n 873 hK rfl rfl l0 ?_
  refine x_iload 875 hK rfl rfl l4 ?_
  refine x_iconst 876 hK rfl rfl ?_
  refine x_iadd 877 hK rfl rfl ?_
  refine x_scr 878 24 hX rfl rfl rfl (by omega) (by omega) ?_
  refine x_callV 881 hK hmono rfl rfl [.ref 0, .int (I ((xs (t + 1).toNat).toInt))] [] rfl rfl (Nat.le_of_ble_eq_true rfl) (Nat.le_of_ble_eq_true rfl) rfl (s0_ hI) (pr_lanes hI hC hb (r_I _)) ?_
  rintro v1 h1 ⟨e1, re1, rfl, hG1, cl1⟩
  refine x_pop 882 hK rfl rfl rfl ?_
  refine x_aload_n 883 hK rfl rfl l2 ?_
  refine x_aload_n 884 hK rfl rfl l0 ?_
  refine x_iload 886 hK rfl rfl l4 ?_
  refine x_iconst 887 hK rfl rfl ?_
  refine x_iadd 888 hK rfl rfl ?_
  refine x_scr 889 24 hX rfl rfl rfl (by omega) (by omega) ?_
  refine x_callV 892 hK hmono rfl rfl [.ref 171, .int (I ((xs (t + 1).toNat).toInt))] [] rfl rfl (Nat.le_of_ble_eq_true rfl) (Nat.le_of_ble_eq_true rfl) rfl (s171g_ hG1) cl1 ?_
  rintro v2 h2 ⟨e2, re2, rfl, ee2, hI2, hC2⟩
  refine x_pop 893 hK rfl rfl rfl ?_
  refine x_goto 1583 hK rfl rfl ?_
  exact hE _ _ _ _ l0 l1 l2 l3 l4 lo (hI2.mono (by omega)) hC2 (by omega) (by omega)
set_option maxRecDepth 8000 in
theorem lc25 (hK : CLO (CLd SPt 310) ac9L_law (some .boolean) lwQ K) (hX : ∀ (pc : Nat) (ls : List (Nat × Value)) (st : List Value) (h : aH) (bc bs : Nat), lwXR Lx xs K pc ls st h bc bs → K pc ls st h bc bs) {t b : Int} {h : aH} {ls : List (Nat × Value)} {bc bs : Nat} (ht : 0 ≤ t ∧ t + 5 ≤ (Lx : Int)) (hL : Lx ≤ 2560) (hI : INV sh b h) (hC : CR h) (hb : b ≤ 320000) (l0 : lk ls 0 = some (.ref 1000006)) (l1 : lk ls 1 = some (.ref 0)) (l2 : lk ls 2 = some (.ref 171)) (l3 : lk ls 3 = some (.ref 201)) (l4 : lk ls 4 = some (.int (I t))) (lo : lok ls = true) (hbc : 1 ≤ bc) (hbs : 6 ≤ bs)
    (hE : ∀ (ls' : List (Nat × Value)) (h' : aH) (bc' bs' : Nat), lk ls' 0 = some (.ref 1000006) → lk ls' 1 = some (.ref 0) → lk ls' 2 = some (.ref 171) → lk ls' 3 = some (.ref 201) → lk ls' 4 = some (.int (I t)) → lok ls' = true → INV sh (b + 600) h' → CR h' → bc ≤ bc' + 1 → bs ≤ bs' + 6 → K 1583 ls' [] h' bc' bs') : K 896 ls [] h bc bs := by
  have hK := sub_K hK 25 (S := aS25) rfl
  have hmono := MONO_CLd SPt_mono 310
  refine x_aload_n 897 hK rfl rfl l1 ?_
  refine x_aload_n 898 hK rfl rfl l0 ?_
  refine x_iload 900 hK rfl rfl l4 ?_
  refine x_iconst 901 hK rfl rfl ?_
  refine x_iadd 902 hK rfl rfl ?_
  refine x_scr 903 25 hX rfl rfl rfl (by omega) (by omega) ?_
  refine x_callV 906 hK hmono rfl rfl [.ref 0, .int (I ((xs (t + 1).toNat).toInt))] [] rfl rfl (Nat.le_of_ble_eq_true rfl) (Nat.le_of_ble_eq_true rfl) rfl (s0_ hI) (pr_safest hI hC hb (r_I _)) ?_
  rintro v1 h1 ⟨e1, re1, rfl, hG1, cl1⟩
  refine x_pop 907 hK rfl rfl rfl ?_
  refine x_aload_n 908 hK rfl rfl l2 ?_
  refine x_aload_n 909 hK rfl rfl l0 ?_
  refine x_iload 911 hK rfl rfl l4 ?_
  refine x_iconst 912 hK rfl rfl ?_
  refine x_iadd 913 hK rfl rfl ?_
  refine x_scr 914 25 hX rfl rfl rfl (by omega) (by omega) ?_
  refine x_callV 917 hK hmono rfl rfl [.ref 171, .int (I ((xs (t + 1).toNat).toInt))] [] rfl rfl (Nat.le_of_ble_eq_true rfl) (Nat.le_of_ble_eq_true rfl) rfl (s171g_ hG1) cl1 ?_
  rintro v2 h2 ⟨e2, re2, rfl, ee2, hI2, hC2⟩
  refine x_pop 918 hK rfl rfl rfl ?_
  refine x_goto 1583 hK rfl rfl ?_
  exact hE _ _ _ _ l0 l1 l2 l3 l4 lo (hI2.mono (by omega)) hC2 (by omega) (by omega)
set_option maxRecDepth 8000 in
theorem lc26 (hK : CLO (CLd SPt 310) ac9L_law (some .boolean) lwQ K) (hX : ∀ (pc : Nat) (ls : List (Nat × Value)) (st : List Value) (h : aH) (bc bs : Nat), lwXR Lx xs K pc ls st h bc bs → K pc ls st h bc bs) {t b : Int} {h : aH} {ls : List (Nat × Value)} {bc bs : Nat} (ht : 0 ≤ t ∧ t + 5 ≤ (Lx : Int)) (hL : Lx ≤ 2560) (hI : INV sh b h) (hC : CR h) (hb : b ≤ 320000) (l0 : lk ls 0 = some (.ref 1000006)) (l1 : lk ls 1 = some (.ref 0)) (l2 : lk ls 2 = some (.ref 171)) (l3 : lk ls 3 = some (.ref 201)) (l4 : lk ls 4 = some (.int (I t))) (lo : lok ls = true) (hbc : 1 ≤ bc) (hbs : 6 ≤ bs)
    (hE : ∀ (ls' : List (Nat × Value)) (h' : aH) (bc' bs' : Nat), lk ls' 0 = some (.ref 1000006) → lk ls' 1 = some (.ref 0) → lk ls' 2 = some (.ref 171) → lk ls' 3 = some (.ref 201) → lk ls' 4 = some (.int (I t)) → lok ls' = true → INV sh (b + 600) h' → CR h' → bc ≤ bc' + 1 → bs ≤ bs' + 6 → K 1583 ls' [] h' bc' bs') : K 921 ls [] h bc bs := by
  have hK := sub_K hK 26 (S := aS26) rfl
  have hmono := MONO_CLd SPt_mono 310
  refine x_aload_n 922 hK rfl rfl l1 ?_
  refine x_aload_n 923 hK rfl rfl l0 ?_
  refine x_iload 925 hK rfl rfl l4 ?_
  refine x_iconst 926 hK rfl rfl ?_
  refine x_iadd 927 hK rfl rfl ?_
  refine x_scr 928 26 hX rfl rfl rfl (by omega) (by omega) ?_
  refine x_callV 931 hK hmono rfl rfl [.ref 0, .int (I ((xs (t + 1).toNat).toInt))] [] rfl rfl (Nat.le_of_ble_eq_true rfl) (Nat.le_of_ble_eq_true rfl) rfl (s0_ hI) (pr_late hI hC hb (r_I _)) ?_
  rintro v1 h1 ⟨e1, re1, rfl, hG1, cl1⟩
  refine x_pop 932 hK rfl rfl rfl ?_
  refine x_aload_n 933 hK rfl rfl l2 ?_
  refine x_aload_n 934 hK rfl rfl l0 ?_
  refine x_iload 936 hK rfl rfl l4 ?_
  refine x_iconst 937 hK rfl rfl ?_
  refine x_iadd 938 hK rfl rfl ?_
  refine x_scr 939 26 hX rfl rfl rfl (by omega) (by omega) ?_
  refine x_callV 942 hK hmono rfl rfl [.ref 171, .int (I ((xs (t + 1).toNat).toInt))] [] rfl rfl (Nat.le_of_ble_eq_true rfl) (Nat.le_of_ble_eq_true rfl) rfl (s171g_ hG1) cl1 ?_
  rintro v2 h2 ⟨e2, re2, rfl, ee2, hI2, hC2⟩
  refine x_pop 943 hK rfl rfl rfl ?_
  refine x_goto 1583 hK rfl rfl ?_
  exact hE _ _ _ _ l0 l1 l2 l3 l4 lo (hI2.mono (by omega)) hC2 (by omega) (by omega)
set_option maxRecDepth 8000 in
theorem lc27 (hK : CLO (CLd SPt 310) ac9L_law (some .boolean) lwQ K) (hX : ∀ (pc : Nat) (ls : List (Nat × Value)) (st : List Value) (h : aH) (bc bs : Nat), lwXR Lx xs K pc ls st h bc bs → K pc ls st h bc bs) {t b : Int} {h : aH} {ls : List (Nat × Value)} {bc bs : Nat} (ht : 0 ≤ t ∧ t + 5 ≤ (Lx : Int)) (hL : Lx ≤ 2560) (hI : INV sh b h) (hC : CR h) (hb : b ≤ 320000) (l0 : lk ls 0 = some (.ref 1000006)) (l1 : lk ls 1 = some (.ref 0)) (l2 : lk ls 2 = some (.ref 171)) (l3 : lk ls 3 = some (.ref 201)) (l4 : lk ls 4 = some (.int (I t))) (lo : lok ls = true) (hbc : 1 ≤ bc) (hbs : 6 ≤ bs)
    (hE : ∀ (ls' : List (Nat × Value)) (h' : aH) (bc' bs' : Nat), lk ls' 0 = some (.ref 1000006) → lk ls' 1 = some (.ref 0) → lk ls' 2 = some (.ref 171) → lk ls' 3 = some (.ref 201) → lk ls' 4 = some (.int (I t)) → lok ls' = true → INV sh (b + 600) h' → CR h' → bc ≤ bc' + 1 → bs ≤ bs' + 6 → K 1583 ls' [] h' bc' bs') : K 946 ls [] h bc bs := by
  have hK := sub_K hK 27 (S := aS27) rfl
  have hmono := MONO_CLd SPt_mono 310
  refine x_aload_n 947 hK rfl rfl l1 ?_
  refine x_aload_n 948 hK rfl rfl l0 ?_
  refine x_iload 950 hK rfl rfl l4 ?_
  refine x_iconst 951 hK rfl rfl ?_
  refine x_iadd 952 hK rfl rfl ?_
  refine x_scr 953 27 hX rfl rfl rfl (by omega) (by omega) ?_
  refine x_callV 956 hK hmono rfl rfl [.ref 0, .int (I ((xs (t + 1).toNat).toInt))] [] rfl rfl (Nat.le_of_ble_eq_true rfl) (Nat.le_of_ble_eq_true rfl) rfl (s0_ hI) (pr_comes hI hC hb (r_I _)) ?_
  rintro v1 h1 ⟨e1, re1, rfl, hG1, cl1⟩
  refine x_pop 957 hK rfl rfl rfl ?_
  refine x_aload_n 958 hK rfl rfl l2 ?_
  refine x_aload_n 959 hK rfl rfl l0 ?_
  refine x_iload 961 hK rfl rfl l4 ?_
  refine x_iconst 962 hK rfl rfl ?_
  refine x_iadd 963 hK rfl rfl ?_
  refine x_scr 964 27 hX rfl rfl rfl (by omega) (by omega) ?_
  refine x_callV 967 hK hmono rfl rfl [.ref 171, .int (I ((xs (t + 1).toNat).toInt))] [] rfl rfl (Nat.le_of_ble_eq_true rfl) (Nat.le_of_ble_eq_true rfl) rfl (s171g_ hG1) cl1 ?_
  rintro v2 h2 ⟨e2, re2, rfl, ee2, hI2, hC2⟩
  refine x_pop 968 hK rfl rfl rfl ?_
  refine x_goto 1583 hK rfl rfl ?_
  exact hE _ _ _ _ l0 l1 l2 l3 l4 lo (hI2.mono (by omega)) hC2 (by omega) (by omega)
set_option maxRecDepth 8000 in
theorem lc28 (hK : CLO (CLd SPt 310) ac9L_law (some .boolean) lwQ K) (hX : ∀ (pc : Nat) (ls : List (Nat × Value)) (st : List Value) (h : aH) (bc bs : Nat), lwXR Lx xs K pc ls st h bc bs → K pc ls st h bc bs) {t b : Int} {h : aH} {ls : List (Nat × Value)} {bc bs : Nat} (ht : 0 ≤ t ∧ t + 5 ≤ (Lx : Int)) (hL : Lx ≤ 2560) (hI : INV sh b h) (hC : CR h) (hb : b ≤ 320000) (l0 : lk ls 0 = some (.ref 1000006)) (l1 : lk ls 1 = some (.ref 0)) (l2 : lk ls 2 = some (.ref 171)) (l3 : lk ls 3 = some (.ref 201)) (l4 : lk ls 4 = some (.int (I t))) (lo : lok ls = true) (hbc : 1 ≤ bc) (hbs : 6 ≤ bs)
    (hE : ∀ (ls' : List (Nat × Value)) (h' : aH) (bc' bs' : Nat), lk ls' 0 = some (.ref 1000006) → lk ls' 1 = some (.ref 0) → lk ls' 2 = some (.ref 171) → lk ls' 3 = some (.ref 201) → lk ls' 4 = some (.int (I t)) → lok ls' = true → INV sh (b + 600) h' → CR h' → bc ≤ bc' + 1 → bs ≤ bs' + 6 → K 1583 ls' [] h' bc' bs') : K 971 ls [] h bc bs := by
  have hK := sub_K hK 28 (S := aS28) rfl
  have hmono := MONO_CLd SPt_mono 310
  refine x_aload_n 972 hK rfl rfl l1 ?_
  refine x_aload_n 973 hK rfl rfl l0 ?_
  refine x_iload 975 hK rfl rfl l4 ?_
  refine x_iconst 976 hK rfl rfl ?_
  refine x_iadd 977 hK rfl rfl ?_
  refine x_scr 978 28 hX rfl rfl rfl (by omega) (by omega) ?_
  refine x_callV 981 hK hmono rfl rfl [.ref 0, .int (I ((xs (t + 1).toNat).toInt))] [] rfl rfl (Nat.le_of_ble_eq_true rfl) (Nat.le_of_ble_eq_true rfl) rfl (s0_ hI) (pr_relay hI hC hb (r_I _)) ?_
  rintro v1 h1 ⟨e1, re1, rfl, hG1, cl1⟩
  refine x_pop 982 hK rfl rfl rfl ?_
  refine x_aload_n 983 hK rfl rfl l2 ?_
  refine x_aload_n 984 hK rfl rfl l0 ?_
  refine x_iload 986 hK rfl rfl l4 ?_
  refine x_iconst 987 hK rfl rfl ?_
  refine x_iadd 988 hK rfl rfl ?_
  refine x_scr 989 28 hX rfl rfl rfl (by omega) (by omega) ?_
  refine x_callV 992 hK hmono rfl rfl [.ref 171, .int (I ((xs (t + 1).toNat).toInt))] [] rfl rfl (Nat.le_of_ble_eq_true rfl) (Nat.le_of_ble_eq_true rfl) rfl (s171g_ hG1) cl1 ?_
  rintro v2 h2 ⟨e2, re2, rfl, ee2, hI2, hC2⟩
  refine x_pop 993 hK rfl rfl rfl ?_
  refine x_goto 1583 hK rfl rfl ?_
  exact hE _ _ _ _ l0 l1 l2 l3 l4 lo (hI2.mono (by omega)) hC2 (by omega) (by omega)
set_option maxRecDepth 8000 in
theorem lc29 (hK : CLO (CLd SPt 310) ac9L_law (some .boolean) lwQ K) (hX : ∀ (pc : Nat) (ls : List (Nat × Value)) (st : List Value) (h : aH) (bc bs : Nat), lwXR Lx xs K pc ls st h bc bs → K pc ls st h bc bs) {t b : Int} {h : aH} {ls : List (Nat × Value)} {bc bs : Nat} (ht : 0 ≤ t ∧ t + 5 ≤ (Lx : Int)) (hL : Lx ≤ 2560) (hI : INV sh b h) (hC : CR h) (hb : b ≤ 320000) (l0 : lk ls 0 = some (.ref 1000006)) (l1 : lk ls 1 = some (.ref 0)) (l2 : lk ls 2 = some (.ref 171)) (l3 : lk ls 3 = some (.ref 201)) (l4 : lk ls 4 = some (.int (I t))) (lo : lok ls = true) (hbc : 1 ≤ bc) (hbs : 6 ≤ bs)
    (hE : ∀ (ls' : List (Nat × Value)) (h' : aH) (bc' bs' : Nat), lk ls' 0 = some (.ref 1000006) → lk ls' 1 = some (.ref 0) → lk ls' 2 = some (.ref 171) → lk ls' 3 = some (.ref 201) → lk ls' 4 = some (.int (I t)) → lok ls' = true → INV sh (b + 600) h' → CR h' → bc ≤ bc' + 1 → bs ≤ bs' + 6 → K 1583 ls' [] h' bc' bs') : K 996 ls [] h bc bs := by
  have hK := sub_K hK 29 (S := aS29) rfl
  have hmono := MONO_CLd SPt_mono 310
  refine x_aload_n 997 hK rfl rfl l1 ?_
  refine x_aload_n 998 hK rfl rfl l0 ?_
  refine x_iload 1000 hK rfl rfl l4 ?_
  refine x_iconst 1001 hK rfl rfl ?_
  refine x_iadd 1002 hK rfl rfl ?_
  refine x_scr 1003 29 hX rfl rfl rfl (by omega) (by omega) ?_
  refine x_callV 1006 hK hmono rfl rfl [.ref 0, .int (I ((xs (t + 1).toNat).toInt))] [] rfl rfl (Nat.le_of_ble_eq_true rfl) (Nat.le_of_ble_eq_true rfl) rfl (s0_ hI) (pr_fewest hI hC hb (r_I _)) ?_
  rintro v1 h1 ⟨e1, re1, rfl, hG1, cl1⟩
  refine x_pop 1007 hK rfl rfl rfl ?_
  refine x_aload_n 1008 hK rfl rfl l2 ?_
  refine x_aload_n 1009 hK rfl rfl l0 ?_
  refine x_iload 1011 hK rfl rfl l4 ?_
  refine x_iconst 1012 hK rfl rfl ?_
  refine x_iadd 1013 hK rfl rfl ?_
  refine x_scr 1014 29 hX rfl rfl rfl (by omega) (by omega) ?_
  refine x_callV 1017 hK hmono rfl rfl [.ref 171, .int (I ((xs (t + 1).toNat).toInt))] [] rfl rfl (Nat.le_of_ble_eq_true rfl) (Nat.le_of_ble_eq_true rfl) rfl (s171g_ hG1) cl1 ?_
  rintro v2 h2 ⟨e2, re2, rfl, ee2, hI2, hC2⟩
  refine x_pop 1018 hK rfl rfl rfl ?_
  refine x_goto 1583 hK rfl rfl ?_
  exact hE _ _ _ _ l0 l1 l2 l3 l4 lo (hI2.mono (by omega)) hC2 (by omega) (by omega)
set_option maxRecDepth 8000 in
theorem lc30 (hK : CLO (CLd SPt 310) ac9L_law (some .boolean) lwQ K) (hX : ∀ (pc : Nat) (ls : List (Nat × Value)) (st : List Value) (h : aH) (bc bs : Nat), lwXR Lx xs K pc ls st h bc bs → K pc ls st h bc bs) {t b : Int} {h : aH} {ls : List (Nat × Value)} {bc bs : Nat} (ht : 0 ≤ t ∧ t + 5 ≤ (Lx : Int)) (hL : Lx ≤ 2560) (hI : INV sh b h) (hC : CR h) (hb : b ≤ 320000) (l0 : lk ls 0 = some (.ref 1000006)) (l1 : lk ls 1 = some (.ref 0)) (l2 : lk ls 2 = some (.ref 171)) (l3 : lk ls 3 = some (.ref 201)) (l4 : lk ls 4 = some (.int (I t))) (lo : lok ls = true) (hbc : 1 ≤ bc) (hbs : 6 ≤ bs)
    (hE : ∀ (ls' : List (Nat × Value)) (h' : aH) (bc' bs' : Nat), lk ls' 0 = some (.ref 1000006) → lk ls' 1 = some (.ref 0) → lk ls' 2 = some (.ref 171) → lk ls' 3 = some (.ref 201) → lk ls' 4 = some (.int (I t)) → lok ls' = true → INV sh (b + 600) h' → CR h' → bc ≤ bc' + 1 → bs ≤ bs' + 6 → K 1583 ls' [] h' bc' bs') : K 1021 ls [] h bc bs := by
  have hK := sub_K hK 30 (S := aS30) rfl
  have hmono := MONO_CLd SPt_mono 310
  refine x_aload_n 1022 hK rfl rfl l1 ?_
  refine x_aload_n 1023 hK rfl rfl l0 ?_
  refine x_iload 1025 hK rfl rfl l4 ?_
  refine x_iconst 1026 hK rfl rfl ?_
  refine x_iadd 1027 hK rfl rfl ?_
  refine x_scr 1028 30 hX rfl rfl rfl (by omega) (by omega) ?_
  refine x_aload_n 1029 hK rfl rfl l0 ?_
  refine x_iload 1031 hK rfl rfl l4 ?_
  refine x_iconst 1032 hK rfl rfl ?_
  refine x_iadd 1033 hK rfl rfl ?_
  refine x_scr 1034 30 hX rfl rfl rfl (by omega) (by omega) ?_
  refine x_callV 1037 hK hmono rfl rfl [.ref 0, .int (I ((xs (t + 1).toNat).toInt)), .int (I ((xs (t + 2).toNat).toInt))] [] rfl rfl (Nat.le_of_ble_eq_true rfl) (Nat.le_of_ble_eq_true rfl) rfl (s0_ hI) (pr_word hI hC hb (r_I _) (r_I _)) ?_
  rintro v1 h1 ⟨e1, re1, rfl, hG1, cl1⟩
  refine x_pop 1038 hK rfl rfl rfl ?_
  refine x_aload_n 1039 hK rfl rfl l2 ?_
  refine x_aload_n 1040 hK rfl rfl l0 ?_
  refine x_iload 1042 hK rfl rfl l4 ?_
  refine x_iconst 1043 hK rfl rfl ?_
  refine x_iadd 1044 hK rfl rfl ?_
  refine x_scr 1045 30 hX rfl rfl rfl (by omega) (by omega) ?_
  refine x_aload_n 1046 hK rfl rfl l0 ?_
  refine x_iload 1048 hK rfl rfl l4 ?_
  refine x_iconst 1049 hK rfl rfl ?_
  refine x_iadd 1050 hK rfl rfl ?_
  refine x_scr 1051 30 hX rfl rfl rfl (by omega) (by omega) ?_
  refine x_callV 1054 hK hmono rfl rfl [.ref 171, .int (I ((xs (t + 1).toNat).toInt)), .int (I ((xs (t + 2).toNat).toInt))] [] rfl rfl (Nat.le_of_ble_eq_true rfl) (Nat.le_of_ble_eq_true rfl) rfl (s171g_ hG1) cl1 ?_
  rintro v2 h2 ⟨e2, re2, rfl, ee2, hI2, hC2⟩
  refine x_pop 1055 hK rfl rfl rfl ?_
  refine x_goto 1583 hK rfl rfl ?_
  exact hE _ _ _ _ l0 l1 l2 l3 l4 lo (hI2.mono (by omega)) hC2 (by omega) (by omega)
set_option maxRecDepth 8000 in
theorem lc31 (hK : CLO (CLd SPt 310) ac9L_law (some .boolean) lwQ K) (hX : ∀ (pc : Nat) (ls : List (Nat × Value)) (st : List Value) (h : aH) (bc bs : Nat), lwXR Lx xs K pc ls st h bc bs → K pc ls st h bc bs) {t b : Int} {h : aH} {ls : List (Nat × Value)} {bc bs : Nat} (ht : 0 ≤ t ∧ t + 5 ≤ (Lx : Int)) (hL : Lx ≤ 2560) (hI : INV sh b h) (hC : CR h) (hb : b ≤ 320000) (l0 : lk ls 0 = some (.ref 1000006)) (l1 : lk ls 1 = some (.ref 0)) (l2 : lk ls 2 = some (.ref 171)) (l3 : lk ls 3 = some (.ref 201)) (l4 : lk ls 4 = some (.int (I t))) (lo : lok ls = true) (hbc : 1 ≤ bc) (hbs : 6 ≤ bs)
    (hE : ∀ (ls' : List (Nat × Value)) (h' : aH) (bc' bs' : Nat), lk ls' 0 = some (.ref 1000006) → lk ls' 1 = some (.ref 0) → lk ls' 2 = some (.ref 171) → lk ls' 3 = some (.ref 201) → lk ls' 4 = some (.int (I t)) → lok ls' = true → INV sh (b + 600) h' → CR h' → bc ≤ bc' + 1 → bs ≤ bs' + 6 → K 1583 ls' [] h' bc' bs') : K 1058 ls [] h bc bs := by
  have hK := sub_K hK 31 (S := aS31) rfl
  have hmono := MONO_CLd SPt_mono 310
  refine x_aload_n 1059 hK rfl rfl l1 ?_
  refine x_aload_n 1060 hK rfl rfl l0 ?_
  refine x_iload 1062 hK rfl rfl l4 ?_
  refine x_iconst 1063 hK rfl rfl ?_
  refine x_iadd 1064 hK rfl rfl ?_
  refine x_scr 1065 31 hX rfl rfl rfl (by omega) (by omega) ?_
  refine x_aload_n 1066 hK rfl rfl l0 ?_
  refine x_iload 1068 hK rfl rfl l4 ?_
  refine x_iconst 1069 hK rfl rfl ?_
  refine x_iadd 1070 hK rfl rfl ?_
  refine x_scr 1071 31 hX rfl rfl rfl (by omega) (by omega) ?_
  refine x_callV 1074 hK hmono rfl rfl [.ref 0, .int (I ((xs (t + 1).toNat).toInt)), .int (I ((xs (t + 2).toNat).toInt))] [] rfl rfl (Nat.le_of_ble_eq_true rfl) (Nat.le_of_ble_eq_true rfl) rfl (s0_ hI) (pr_survives hI hC hb (r_I _) (r_I _)) ?_
  rintro v1 h1 ⟨e1, re1, rfl, hG1, cl1⟩
  refine x_pop 1075 hK rfl rfl rfl ?_
  refine x_aload_n 1076 hK rfl rfl l2 ?_
  refine x_aload_n 1077 hK rfl rfl l0 ?_
  refine x_iload 1079 hK rfl rfl l4 ?_
  refine x_iconst 1080 hK rfl rfl ?_
  refine x_iadd 1081 hK rfl rfl ?_
  refine x_scr 1082 31 hX rfl rfl rfl (by omega) (by omega) ?_
  refine x_aload_n 1083 hK rfl rfl l0 ?_
  refine x_iload 1085 hK rfl rfl l4 ?_
  refine x_iconst 1086 hK rfl rfl ?_
  refine x_iadd 1087 hK rfl rfl ?_
  refine x_scr 1088 31 hX rfl rfl rfl (by omega) (by omega) ?_
  refine x_callV 1091 hK hmono rfl rfl [.ref 171, .int (I ((xs (t + 1).toNat).toInt)), .int (I ((xs (t + 2).toNat).toInt))] [] rfl rfl (Nat.le_of_ble_eq_true rfl) (Nat.le_of_ble_eq_true rfl) rfl (s171g_ hG1) cl1 ?_
  rintro v2 h2 ⟨e2, re2, rfl, ee2, hI2, hC2⟩
  refine x_pop 1092 hK rfl rfl rfl ?_
  refine x_goto 1583 hK rfl rfl ?_
  exact hE _ _ _ _ l0 l1 l2 l3 l4 lo (hI2.mono (by omega)) hC2 (by omega) (by omega)
set_option maxRecDepth 8000 in
theorem lc32 (hK : CLO (CLd SPt 310) ac9L_law (some .boolean) lwQ K) (hX : ∀ (pc : Nat) (ls : List (Nat × Value)) (st : List Value) (h : aH) (bc bs : Nat), lwXR Lx xs K pc ls st h bc bs → K pc ls st h bc bs) {t b : Int} {h : aH} {ls : List (Nat × Value)} {bc bs : Nat} (ht : 0 ≤ t ∧ t + 5 ≤ (Lx : Int)) (hL : Lx ≤ 2560) (hI : INV sh b h) (hC : CR h) (hb : b ≤ 320000) (l0 : lk ls 0 = some (.ref 1000006)) (l1 : lk ls 1 = some (.ref 0)) (l2 : lk ls 2 = some (.ref 171)) (l3 : lk ls 3 = some (.ref 201)) (l4 : lk ls 4 = some (.int (I t))) (lo : lok ls = true) (hbc : 1 ≤ bc) (hbs : 6 ≤ bs)
    (hE : ∀ (ls' : List (Nat × Value)) (h' : aH) (bc' bs' : Nat), lk ls' 0 = some (.ref 1000006) → lk ls' 1 = some (.ref 0) → lk ls' 2 = some (.ref 171) → lk ls' 3 = some (.ref 201) → lk ls' 4 = some (.int (I t)) → lok ls' = true → INV sh (b + 600) h' → CR h' → bc ≤ bc' + 1 → bs ≤ bs' + 6 → K 1583 ls' [] h' bc' bs') : K 1095 ls [] h bc bs := by
  have hK := sub_K hK 32 (S := aS32) rfl
  have hmono := MONO_CLd SPt_mono 310
  refine x_aload_n 1096 hK rfl rfl l1 ?_
  refine x_aload_n 1097 hK rfl rfl l0 ?_
  refine x_iload 1099 hK rfl rfl l4 ?_
  refine x_iconst 1100 hK rfl rfl ?_
  refine x_iadd 1101 hK rfl rfl ?_
  refine x_scr 1102 32 hX rfl rfl rfl (by omega) (by omega) ?_
  refine x_callV 1105 hK hmono rfl rfl [.ref 0, .int (I ((xs (t + 1).toNat).toInt))] [] rfl rfl (Nat.le_of_ble_eq_true rfl) (Nat.le_of_ble_eq_true rfl) rfl (s0_ hI) (pr_lives hI hC hb (r_I _)) ?_
  rintro v1 h1 ⟨e1, re1, rfl, hG1, cl1⟩
  refine x_pop 1106 hK rfl rfl rfl ?_
  refine x_aload_n 1107 hK rfl rfl l2 ?_
  refine x_aload_n 1108 hK rfl rfl l0 ?_
  refine x_iload 1110 hK rfl rfl l4 ?_
  refine x_iconst 1111 hK rfl rfl ?_
  refine x_iadd 1112 hK rfl rfl ?_
  refine x_scr 1113 32 hX rfl rfl rfl (by omega) (by omega) ?_
  refine x_callV 1116 hK hmono rfl rfl [.ref 171, .int (I ((xs (t + 1).toNat).toInt))] [] rfl rfl (Nat.le_of_ble_eq_true rfl) (Nat.le_of_ble_eq_true rfl) rfl (s171g_ hG1) cl1 ?_
  rintro v2 h2 ⟨e2, re2, rfl, ee2, hI2, hC2⟩
  refine x_pop 1117 hK rfl rfl rfl ?_
  refine x_goto 1583 hK rfl rfl ?_
  exact hE _ _ _ _ l0 l1 l2 l3 l4 lo (hI2.mono (by omega)) hC2 (by omega) (by omega)
set_option maxRecDepth 8000 in
theorem lc33 (hK : CLO (CLd SPt 310) ac9L_law (some .boolean) lwQ K) (hX : ∀ (pc : Nat) (ls : List (Nat × Value)) (st : List Value) (h : aH) (bc bs : Nat), lwXR Lx xs K pc ls st h bc bs → K pc ls st h bc bs) {t b : Int} {h : aH} {ls : List (Nat × Value)} {bc bs : Nat} (ht : 0 ≤ t ∧ t + 5 ≤ (Lx : Int)) (hL : Lx ≤ 2560) (hI : INV sh b h) (hC : CR h) (hb : b ≤ 320000) (l0 : lk ls 0 = some (.ref 1000006)) (l1 : lk ls 1 = some (.ref 0)) (l2 : lk ls 2 = some (.ref 171)) (l3 : lk ls 3 = some (.ref 201)) (l4 : lk ls 4 = some (.int (I t))) (lo : lok ls = true) (hbc : 1 ≤ bc) (hbs : 6 ≤ bs)
    (hE : ∀ (ls' : List (Nat × Value)) (h' : aH) (bc' bs' : Nat), lk ls' 0 = some (.ref 1000006) → lk ls' 1 = some (.ref 0) → lk ls' 2 = some (.ref 171) → lk ls' 3 = some (.ref 201) → lk ls' 4 = some (.int (I t)) → lok ls' = true → INV sh (b + 600) h' → CR h' → bc ≤ bc' + 1 → bs ≤ bs' + 6 → K 1583 ls' [] h' bc' bs') : K 1120 ls [] h bc bs := by
  have hK := sub_K hK 33 (S := aS33) rfl
  have hmono := MONO_CLd SPt_mono 310
  refine x_aload_n 1121 hK rfl rfl l1 ?_
  refine x_aload_n 1122 hK rfl rfl l0 ?_
  refine x_iload 1124 hK rfl rfl l4 ?_
  refine x_iconst 1125 hK rfl rfl ?_
  refine x_iadd 1126 hK rfl rfl ?_
  refine x_scr 1127 33 hX rfl rfl rfl (by omega) (by omega) ?_
  refine x_callV 1130 hK hmono rfl rfl [.ref 0, .int (I ((xs (t + 1).toNat).toInt))] [] rfl rfl (Nat.le_of_ble_eq_true rfl) (Nat.le_of_ble_eq_true rfl) rfl (s0_ hI) (pr_shares hI hC hb (r_I _)) ?_
  rintro v1 h1 ⟨e1, re1, rfl, hG1, cl1⟩
  refine x_pop 1131 hK rfl rfl rfl ?_
  refine x_aload_n 1132 hK rfl rfl l2 ?_
  refine x_aload_n 1133 hK rfl rfl l0 ?_
  refine x_iload 1135 hK rfl rfl l4 ?_
  refine x_iconst 1136 hK rfl rfl ?_
  refine x_iadd 1137 hK rfl rfl ?_
  refine x_scr 1138 33 hX rfl rfl rfl (by omega) (by omega) ?_
  refine x_callV 1141 hK hmono rfl rfl [.ref 171, .int (I ((xs (t + 1).toNat).toInt))] [] rfl rfl (Nat.le_of_ble_eq_true rfl) (Nat.le_of_ble_eq_true rfl) rfl (s171g_ hG1) cl1 ?_
  rintro v2 h2 ⟨e2, re2, rfl, ee2, hI2, hC2⟩
  refine x_pop 1142 hK rfl rfl rfl ?_
  refine x_goto 1583 hK rfl rfl ?_
  exact hE _ _ _ _ l0 l1 l2 l3 l4 lo (hI2.mono (by omega)) hC2 (by omega) (by omega)
set_option maxRecDepth 8000 in
theorem lc34 (hK : CLO (CLd SPt 310) ac9L_law (some .boolean) lwQ K) (hX : ∀ (pc : Nat) (ls : List (Nat × Value)) (st : List Value) (h : aH) (bc bs : Nat), lwXR Lx xs K pc ls st h bc bs → K pc ls st h bc bs) {t b : Int} {h : aH} {ls : List (Nat × Value)} {bc bs : Nat} (ht : 0 ≤ t ∧ t + 5 ≤ (Lx : Int)) (hL : Lx ≤ 2560) (hI : INV sh b h) (hC : CR h) (hb : b ≤ 320000) (l0 : lk ls 0 = some (.ref 1000006)) (l1 : lk ls 1 = some (.ref 0)) (l2 : lk ls 2 = some (.ref 171)) (l3 : lk ls 3 = some (.ref 201)) (l4 : lk ls 4 = some (.int (I t))) (lo : lok ls = true) (hbc : 1 ≤ bc) (hbs : 6 ≤ bs)
    (hE : ∀ (ls' : List (Nat × Value)) (h' : aH) (bc' bs' : Nat), lk ls' 0 = some (.ref 1000006) → lk ls' 1 = some (.ref 0) → lk ls' 2 = some (.ref 171) → lk ls' 3 = some (.ref 201) → lk ls' 4 = some (.int (I t)) → lok ls' = true → INV sh (b + 600) h' → CR h' → bc ≤ bc' + 1 → bs ≤ bs' + 6 → K 1583 ls' [] h' bc' bs') : K 1145 ls [] h bc bs := by
  have hK := sub_K hK 34 (S := aS34) rfl
  have hmono := MONO_CLd SPt_mono 310
  refine x_aload_n 1146 hK rfl rfl l1 ?_
  refine x_aload_n 1147 hK rfl rfl l0 ?_
  refine x_iload 1149 hK rfl rfl l4 ?_
  refine x_iconst 1150 hK rfl rfl ?_
  refine x_iadd 1151 hK rfl rfl ?_
  refine x_scr 1152 34 hX rfl rfl rfl (by omega) (by omega) ?_
  refine x_callV 1155 hK hmono rfl rfl [.ref 0, .int (I ((xs (t + 1).toNat).toInt))] [] rfl rfl (Nat.le_of_ble_eq_true rfl) (Nat.le_of_ble_eq_true rfl) rfl (s0_ hI) (pr_fast hI hC hb (r_I _)) ?_
  rintro v1 h1 ⟨e1, re1, rfl, hG1, cl1⟩
  refine x_pop 1156 hK rfl rfl rfl ?_
  refine x_aload_n 1157 hK rfl rfl l2 ?_
  refine x_aload_n 1158 hK rfl rfl l0 ?_
  refine x_iload 1160 hK rfl rfl l4 ?_
  refine x_iconst 1161 hK rfl rfl ?_
  refine x_iadd 1162 hK rfl rfl ?_
  refine x_scr 1163 34 hX rfl rfl rfl (by omega) (by omega) ?_
  refine x_callV 1166 hK hmono rfl rfl [.ref 171, .int (I ((xs (t + 1).toNat).toInt))] [] rfl rfl (Nat.le_of_ble_eq_true rfl) (Nat.le_of_ble_eq_true rfl) rfl (s171g_ hG1) cl1 ?_
  rintro v2 h2 ⟨e2, re2, rfl, ee2, hI2, hC2⟩
  refine x_pop 1167 hK rfl rfl rfl ?_
  refine x_goto 1583 hK rfl rfl ?_
  exact hE _ _ _ _ l0 l1 l2 l3 l4 lo (hI2.mono (by omega)) hC2 (by omega) (by omega)
set_option maxRecDepth 8000 in
theorem lc35 (hK : CLO (CLd SPt 310) ac9L_law (some .boolean) lwQ K) (hX : ∀ (pc : Nat) (ls : List (Nat × Value)) (st : List Value) (h : aH) (bc bs : Nat), lwXR Lx xs K pc ls st h bc bs → K pc ls st h bc bs) {t b : Int} {h : aH} {ls : List (Nat × Value)} {bc bs : Nat} (ht : 0 ≤ t ∧ t + 5 ≤ (Lx : Int)) (hL : Lx ≤ 2560) (hI : INV sh b h) (hC : CR h) (hb : b ≤ 320000) (l0 : lk ls 0 = some (.ref 1000006)) (l1 : lk ls 1 = some (.ref 0)) (l2 : lk ls 2 = some (.ref 171)) (l3 : lk ls 3 = some (.ref 201)) (l4 : lk ls 4 = some (.int (I t))) (lo : lok ls = true) (hbc : 1 ≤ bc) (hbs : 6 ≤ bs)
    (hE : ∀ (ls' : List (Nat × Value)) (h' : aH) (bc' bs' : Nat), lk ls' 0 = some (.ref 1000006) → lk ls' 1 = some (.ref 0) → lk ls' 2 = some (.ref 171) → lk ls' 3 = some (.ref 201) → lk ls' 4 = some (.int (I t)) → lok ls' = true → INV sh (b + 600) h' → CR h' → bc ≤ bc' + 1 → bs ≤ bs' + 6 → K 1583 ls' [] h' bc' bs') : K 1170 ls [] h bc bs := by
  have hK := sub_K hK 35 (S := aS35) rfl
  have hmono := MONO_CLd SPt_mono 310
  refine x_aload_n 1171 hK rfl rfl l1 ?_
  refine x_aload_n 1172 hK rfl rfl l0 ?_
  refine x_iload 1174 hK rfl rfl l4 ?_
  refine x_iconst 1175 hK rfl rfl ?_
  refine x_iadd 1176 hK rfl rfl ?_
  refine x_scr 1177 35 hX rfl rfl rfl (by omega) (by omega) ?_
  refine x_aload_n 1178 hK rfl rfl l0 ?_
  refine x_iload 1180 hK rfl rfl l4 ?_
  refine x_iconst 1181 hK rfl rfl ?_
  refine x_iadd 1182 hK rfl rfl ?_
  refine x_scr 1183 35 hX rfl rfl rfl (by omega) (by omega) ?_
  refine x_callV 1186 hK hmono rfl rfl [.ref 0, .int (I ((xs (t + 1).toNat).toInt)), .int (I ((xs (t + 2).toNat).toInt))] [] rfl rfl (Nat.le_of_ble_eq_true rfl) (Nat.le_of_ble_eq_true rfl) rfl (s0_ hI) (pr_seen hI hC hb (r_I _) (r_I _)) ?_
  rintro v1 h1 ⟨e1, re1, rfl, hG1, cl1⟩
  refine x_pop 1187 hK rfl rfl rfl ?_
  refine x_aload_n 1188 hK rfl rfl l2 ?_
  refine x_aload_n 1189 hK rfl rfl l0 ?_
  refine x_iload 1191 hK rfl rfl l4 ?_
  refine x_iconst 1192 hK rfl rfl ?_
  refine x_iadd 1193 hK rfl rfl ?_
  refine x_scr 1194 35 hX rfl rfl rfl (by omega) (by omega) ?_
  refine x_aload_n 1195 hK rfl rfl l0 ?_
  refine x_iload 1197 hK rfl rfl l4 ?_
  refine x_iconst 1198 hK rfl rfl ?_
  refine x_iadd 1199 hK rfl rfl ?_
  refine x_scr 1200 35 hX rfl rfl rfl (by omega) (by omega) ?_
  refine x_callV 1203 hK hmono rfl rfl [.ref 171, .int (I ((xs (t + 1).toNat).toInt)), .int (I ((xs (t + 2).toNat).toInt))] [] rfl rfl (Nat.le_of_ble_eq_true rfl) (Nat.le_of_ble_eq_true rfl) rfl (s171g_ hG1) cl1 ?_
  rintro v2 h2 ⟨e2, re2, rfl, ee2, hI2, hC2⟩
  refine x_pop 1204 hK rfl rfl rfl ?_
  refine x_goto 1583 hK rfl rfl ?_
  exact hE _ _ _ _ l0 l1 l2 l3 l4 lo (hI2.mono (by omega)) hC2 (by omega) (by omega)
set_option maxRecDepth 8000 in
theorem lc36 (hK : CLO (CLd SPt 310) ac9L_law (some .boolean) lwQ K) (hX : ∀ (pc : Nat) (ls : List (Nat × Value)) (st : List Value) (h : aH) (bc bs : Nat), lwXR Lx xs K pc ls st h bc bs → K pc ls st h bc bs) {t b : Int} {h : aH} {ls : List (Nat × Value)} {bc bs : Nat} (ht : 0 ≤ t ∧ t + 5 ≤ (Lx : Int)) (hL : Lx ≤ 2560) (hI : INV sh b h) (hC : CR h) (hb : b ≤ 320000) (l0 : lk ls 0 = some (.ref 1000006)) (l1 : lk ls 1 = some (.ref 0)) (l2 : lk ls 2 = some (.ref 171)) (l3 : lk ls 3 = some (.ref 201)) (l4 : lk ls 4 = some (.int (I t))) (lo : lok ls = true) (hbc : 1 ≤ bc) (hbs : 6 ≤ bs)
    (hE : ∀ (ls' : List (Nat × Value)) (h' : aH) (bc' bs' : Nat), lk ls' 0 = some (.ref 1000006) → lk ls' 1 = some (.ref 0) → lk ls' 2 = some (.ref 171) → lk ls' 3 = some (.ref 201) → lk ls' 4 = some (.int (I t)) → lok ls' = true → INV sh (b + 600) h' → CR h' → bc ≤ bc' + 1 → bs ≤ bs' + 6 → K 1583 ls' [] h' bc' bs') : K 1207 ls [] h bc bs := by
  have hK := sub_K hK 36 (S := aS36) rfl
  have hmono := MONO_CLd SPt_mono 310
  refine x_aload_n 1208 hK rfl rfl l1 ?_
  refine x_callV 1211 hK hmono rfl rfl [.ref 0] [] rfl rfl (Nat.le_of_ble_eq_true rfl) (Nat.le_of_ble_eq_true rfl) rfl (s0_ hI) (pr_forget hI hC hb ) ?_
  rintro v1 h1 ⟨e1, re1, rfl, hG1, cl1⟩
  refine x_pop 1212 hK rfl rfl rfl ?_
  refine x_aload_n 1213 hK rfl rfl l2 ?_
  refine x_callV 1216 hK hmono rfl rfl [.ref 171] [] rfl rfl (Nat.le_of_ble_eq_true rfl) (Nat.le_of_ble_eq_true rfl) rfl (s171g_ hG1) cl1 ?_
  rintro v2 h2 ⟨e2, re2, rfl, ee2, hI2, hC2⟩
  refine x_pop 1217 hK rfl rfl rfl ?_
  refine x_goto 1583 hK rfl rfl ?_
  exact hE _ _ _ _ l0 l1 l2 l3 l4 lo (hI2.mono (by omega)) hC2 (by omega) (by omega)
set_option maxRecDepth 8000 in
theorem lc37 (hK : CLO (CLd SPt 310) ac9L_law (some .boolean) lwQ K) (hX : ∀ (pc : Nat) (ls : List (Nat × Value)) (st : List Value) (h : aH) (bc bs : Nat), lwXR Lx xs K pc ls st h bc bs → K pc ls st h bc bs) {t b : Int} {h : aH} {ls : List (Nat × Value)} {bc bs : Nat} (ht : 0 ≤ t ∧ t + 5 ≤ (Lx : Int)) (hL : Lx ≤ 2560) (hI : INV sh b h) (hC : CR h) (hb : b ≤ 320000) (l0 : lk ls 0 = some (.ref 1000006)) (l1 : lk ls 1 = some (.ref 0)) (l2 : lk ls 2 = some (.ref 171)) (l3 : lk ls 3 = some (.ref 201)) (l4 : lk ls 4 = some (.int (I t))) (lo : lok ls = true) (hbc : 1 ≤ bc) (hbs : 6 ≤ bs)
    (hE : ∀ (ls' : List (Nat × Value)) (h' : aH) (bc' bs' : Nat), lk ls' 0 = some (.ref 1000006) → lk ls' 1 = some (.ref 0) → lk ls' 2 = some (.ref 171) → lk ls' 3 = some (.ref 201) → lk ls' 4 = some (.int (I t)) → lok ls' = true → INV sh (b + 600) h' → CR h' → bc ≤ bc' + 1 → bs ≤ bs' + 6 → K 1583 ls' [] h' bc' bs') : K 1220 ls [] h bc bs := by
  have hK := sub_K hK 37 (S := aS37) rfl
  have hmono := MONO_CLd SPt_mono 310
  refine x_aload_n 1221 hK rfl rfl l1 ?_
  refine x_callV 1224 hK hmono rfl rfl [.ref 0] [] rfl rfl (Nat.le_of_ble_eq_true rfl) (Nat.le_of_ble_eq_true rfl) rfl (s0_ hI) (pr_ordered hI hC hb ) ?_
  rintro v1 h1 ⟨e1, re1, rfl, hG1, cl1⟩
  refine x_pop 1225 hK rfl rfl rfl ?_
  refine x_aload_n 1226 hK rfl rfl l2 ?_
  refine x_callV 1229 hK hmono rfl rfl [.ref 171] [] rfl rfl (Nat.le_of_ble_eq_true rfl) (Nat.le_of_ble_eq_true rfl) rfl (s171g_ hG1) cl1 ?_
  rintro v2 h2 ⟨e2, re2, rfl, ee2, hI2, hC2⟩
  refine x_pop 1230 hK rfl rfl rfl ?_
  refine x_goto 1583 hK rfl rfl ?_
  exact hE _ _ _ _ l0 l1 l2 l3 l4 lo (hI2.mono (by omega)) hC2 (by omega) (by omega)
set_option maxRecDepth 8000 in
theorem lc38 (hK : CLO (CLd SPt 310) ac9L_law (some .boolean) lwQ K) (hX : ∀ (pc : Nat) (ls : List (Nat × Value)) (st : List Value) (h : aH) (bc bs : Nat), lwXR Lx xs K pc ls st h bc bs → K pc ls st h bc bs) {t b : Int} {h : aH} {ls : List (Nat × Value)} {bc bs : Nat} (ht : 0 ≤ t ∧ t + 5 ≤ (Lx : Int)) (hL : Lx ≤ 2560) (hI : INV sh b h) (hC : CR h) (hb : b ≤ 320000) (l0 : lk ls 0 = some (.ref 1000006)) (l1 : lk ls 1 = some (.ref 0)) (l2 : lk ls 2 = some (.ref 171)) (l3 : lk ls 3 = some (.ref 201)) (l4 : lk ls 4 = some (.int (I t))) (lo : lok ls = true) (hbc : 1 ≤ bc) (hbs : 6 ≤ bs)
    (hE : ∀ (ls' : List (Nat × Value)) (h' : aH) (bc' bs' : Nat), lk ls' 0 = some (.ref 1000006) → lk ls' 1 = some (.ref 0) → lk ls' 2 = some (.ref 171) → lk ls' 3 = some (.ref 201) → lk ls' 4 = some (.int (I t)) → lok ls' = true → INV sh (b + 600) h' → CR h' → bc ≤ bc' + 1 → bs ≤ bs' + 6 → K 1583 ls' [] h' bc' bs') : K 1233 ls [] h bc bs := by
  have hK := sub_K hK 38 (S := aS38) rfl
  have hmono := MONO_CLd SPt_mono 310
  refine x_aload_n 1234 hK rfl rfl l1 ?_
  refine x_callV 1237 hK hmono rfl rfl [.ref 0] [] rfl rfl (Nat.le_of_ble_eq_true rfl) (Nat.le_of_ble_eq_true rfl) rfl (s0_ hI) (pr_unsure hI hC hb ) ?_
  rintro v1 h1 ⟨e1, re1, rfl, hG1, cl1⟩
  refine x_pop 1238 hK rfl rfl rfl ?_
  refine x_aload_n 1239 hK rfl rfl l2 ?_
  refine x_callV 1242 hK hmono rfl rfl [.ref 171] [] rfl rfl (Nat.le_of_ble_eq_true rfl) (Nat.le_of_ble_eq_true rfl) rfl (s171g_ hG1) cl1 ?_
  rintro v2 h2 ⟨e2, re2, rfl, ee2, hI2, hC2⟩
  refine x_pop 1243 hK rfl rfl rfl ?_
  refine x_goto 1583 hK rfl rfl ?_
  exact hE _ _ _ _ l0 l1 l2 l3 l4 lo (hI2.mono (by omega)) hC2 (by omega) (by omega)
set_option maxRecDepth 8000 in
theorem lc39 (hK : CLO (CLd SPt 310) ac9L_law (some .boolean) lwQ K) (hX : ∀ (pc : Nat) (ls : List (Nat × Value)) (st : List Value) (h : aH) (bc bs : Nat), lwXR Lx xs K pc ls st h bc bs → K pc ls st h bc bs) {t b : Int} {h : aH} {ls : List (Nat × Value)} {bc bs : Nat} (ht : 0 ≤ t ∧ t + 5 ≤ (Lx : Int)) (hL : Lx ≤ 2560) (hI : INV sh b h) (hC : CR h) (hb : b ≤ 320000) (l0 : lk ls 0 = some (.ref 1000006)) (l1 : lk ls 1 = some (.ref 0)) (l2 : lk ls 2 = some (.ref 171)) (l3 : lk ls 3 = some (.ref 201)) (l4 : lk ls 4 = some (.int (I t))) (lo : lok ls = true) (hbc : 1 ≤ bc) (hbs : 6 ≤ bs)
    (hE : ∀ (ls' : List (Nat × Value)) (h' : aH) (bc' bs' : Nat), lk ls' 0 = some (.ref 1000006) → lk ls' 1 = some (.ref 0) → lk ls' 2 = some (.ref 171) → lk ls' 3 = some (.ref 201) → lk ls' 4 = some (.int (I t)) → lok ls' = true → INV sh (b + 600) h' → CR h' → bc ≤ bc' + 1 → bs ≤ bs' + 6 → K 1583 ls' [] h' bc' bs') : K 1246 ls [] h bc bs := by
  have hK := sub_K hK 39 (S := aS39) rfl
  have hmono := MONO_CLd SPt_mono 310
  refine x_aload_n 1247 hK rfl rfl l1 ?_
  refine x_aload_n 1248 hK rfl rfl l0 ?_
  refine x_iload 1250 hK rfl rfl l4 ?_
  refine x_iconst 1251 hK rfl rfl ?_
  refine x_iadd 1252 hK rfl rfl ?_
  refine x_scr 1253 39 hX rfl rfl rfl (by omega) (by omega) ?_
  refine x_aload_n 1254 hK rfl rfl l0 ?_
  refine x_iload 1256 hK rfl rfl l4 ?_
  refine x_iconst 1257 hK rfl rfl ?_
  refine x_iadd 1258 hK rfl rfl ?_
  refine x_scr 1259 39 hX rfl rfl rfl (by omega) (by omega) ?_
  refine x_callV 1262 hK hmono rfl rfl [.ref 0, .int (I ((xs (t + 1).toNat).toInt)), .int (I ((xs (t + 2).toNat).toInt))] [] rfl rfl (Nat.le_of_ble_eq_true rfl) (Nat.le_of_ble_eq_true rfl) rfl (s0_ hI) (pr_boy hI hC hb (r_I _) (r_I _)) ?_
  rintro v1 h1 ⟨e1, re1, rfl, hG1, cl1⟩
  refine x_pop 1263 hK rfl rfl rfl ?_
  refine x_aload_n 1264 hK rfl rfl l2 ?_
  refine x_aload_n 1265 hK rfl rfl l0 ?_
  refine x_iload 1267 hK rfl rfl l4 ?_
  refine x_iconst 1268 hK rfl rfl ?_
  refine x_iadd 1269 hK rfl rfl ?_
  refine x_scr 1270 39 hX rfl rfl rfl (by omega) (by omega) ?_
  refine x_aload_n 1271 hK rfl rfl l0 ?_
  refine x_iload 1273 hK rfl rfl l4 ?_
  refine x_iconst 1274 hK rfl rfl ?_
  refine x_iadd 1275 hK rfl rfl ?_
  refine x_scr 1276 39 hX rfl rfl rfl (by omega) (by omega) ?_
  refine x_callV 1279 hK hmono rfl rfl [.ref 171, .int (I ((xs (t + 1).toNat).toInt)), .int (I ((xs (t + 2).toNat).toInt))] [] rfl rfl (Nat.le_of_ble_eq_true rfl) (Nat.le_of_ble_eq_true rfl) rfl (s171g_ hG1) cl1 ?_
  rintro v2 h2 ⟨e2, re2, rfl, ee2, hI2, hC2⟩
  refine x_pop 1280 hK rfl rfl rfl ?_
  refine x_goto 1583 hK rfl rfl ?_
  exact hE _ _ _ _ l0 l1 l2 l3 l4 lo (hI2.mono (by omega)) hC2 (by omega) (by omega)
set_option maxRecDepth 8000 in
theorem lc40 (hK : CLO (CLd SPt 310) ac9L_law (some .boolean) lwQ K) (hX : ∀ (pc : Nat) (ls : List (Nat × Value)) (st : List Value) (h : aH) (bc bs : Nat), lwXR Lx xs K pc ls st h bc bs → K pc ls st h bc bs) {t b : Int} {h : aH} {ls : List (Nat × Value)} {bc bs : Nat} (ht : 0 ≤ t ∧ t + 5 ≤ (Lx : Int)) (hL : Lx ≤ 2560) (hI : INV sh b h) (hC : CR h) (hb : b ≤ 320000) (l0 : lk ls 0 = some (.ref 1000006)) (l1 : lk ls 1 = some (.ref 0)) (l2 : lk ls 2 = some (.ref 171)) (l3 : lk ls 3 = some (.ref 201)) (l4 : lk ls 4 = some (.int (I t))) (lo : lok ls = true) (hbc : 1 ≤ bc) (hbs : 6 ≤ bs)
    (hE : ∀ (ls' : List (Nat × Value)) (h' : aH) (bc' bs' : Nat), lk ls' 0 = some (.ref 1000006) → lk ls' 1 = some (.ref 0) → lk ls' 2 = some (.ref 171) → lk ls' 3 = some (.ref 201) → lk ls' 4 = some (.int (I t)) → lok ls' = true → INV sh (b + 600) h' → CR h' → bc ≤ bc' + 1 → bs ≤ bs' + 6 → K 1583 ls' [] h' bc' bs') : K 1283 ls [] h bc bs := by
  have hK := sub_K hK 40 (S := aS40) rfl
  have hmono := MONO_CLd SPt_mono 310
  refine x_aload_n 1284 hK rfl rfl l1 ?_
  refine x_aload_n 1285 hK rfl rfl l0 ?_
  refine x_iload 1287 hK rfl rfl l4 ?_
  refine x_iconst 1288 hK rfl rfl ?_
  refine x_iadd 1289 hK rfl rfl ?_
  refine x_scr 1290 40 hX rfl rfl rfl (by omega) (by omega) ?_
  refine x_callV 1293 hK hmono rfl rfl [.ref 0, .int (I ((xs (t + 1).toNat).toInt))] [] rfl rfl (Nat.le_of_ble_eq_true rfl) (Nat.le_of_ble_eq_true rfl) rfl (s0_ hI) (pr_meets hI hC hb (r_I _)) ?_
  rintro v1 h1 ⟨e1, re1, rfl, hG1, cl1⟩
  refine x_pop 1294 hK rfl rfl rfl ?_
  refine x_aload_n 1295 hK rfl rfl l2 ?_
  refine x_aload_n 1296 hK rfl rfl l0 ?_
  refine x_iload 1298 hK rfl rfl l4 ?_
  refine x_iconst 1299 hK rfl rfl ?_
  refine x_iadd 1300 hK rfl rfl ?_
  refine x_scr 1301 40 hX rfl rfl rfl (by omega) (by omega) ?_
  refine x_callV 1304 hK hmono rfl rfl [.ref 171, .int (I ((xs (t + 1).toNat).toInt))] [] rfl rfl (Nat.le_of_ble_eq_true rfl) (Nat.le_of_ble_eq_true rfl) rfl (s171g_ hG1) cl1 ?_
  rintro v2 h2 ⟨e2, re2, rfl, ee2, hI2, hC2⟩
  refine x_pop 1305 hK rfl rfl rfl ?_
  refine x_goto 1583 hK rfl rfl ?_
  exact hE _ _ _ _ l0 l1 l2 l3 l4 lo (hI2.mono (by omega)) hC2 (by omega) (by omega)
set_option maxRecDepth 8000 in
theorem lc41 (hK : CLO (CLd SPt 310) ac9L_law (some .boolean) lwQ K) (hX : ∀ (pc : Nat) (ls : List (Nat × Value)) (st : List Value) (h : aH) (bc bs : Nat), lwXR Lx xs K pc ls st h bc bs → K pc ls st h bc bs) {t b : Int} {h : aH} {ls : List (Nat × Value)} {bc bs : Nat} (ht : 0 ≤ t ∧ t + 5 ≤ (Lx : Int)) (hL : Lx ≤ 2560) (hI : INV sh b h) (hC : CR h) (hb : b ≤ 320000) (l0 : lk ls 0 = some (.ref 1000006)) (l1 : lk ls 1 = some (.ref 0)) (l2 : lk ls 2 = some (.ref 171)) (l3 : lk ls 3 = some (.ref 201)) (l4 : lk ls 4 = some (.int (I t))) (lo : lok ls = true) (hbc : 1 ≤ bc) (hbs : 6 ≤ bs)
    (hE : ∀ (ls' : List (Nat × Value)) (h' : aH) (bc' bs' : Nat), lk ls' 0 = some (.ref 1000006) → lk ls' 1 = some (.ref 0) → lk ls' 2 = some (.ref 171) → lk ls' 3 = some (.ref 201) → lk ls' 4 = some (.int (I t)) → lok ls' = true → INV sh (b + 600) h' → CR h' → bc ≤ bc' + 1 → bs ≤ bs' + 6 → K 1583 ls' [] h' bc' bs') : K 1308 ls [] h bc bs := by
  have hK := sub_K hK 41 (S := aS41) rfl
  have hmono := MONO_CLd SPt_mono 310
  refine x_aload_n 1309 hK rfl rfl l1 ?_
  refine x_aload_n 1310 hK rfl rfl l0 ?_
  refine x_iload 1312 hK rfl rfl l4 ?_
  refine x_iconst 1313 hK rfl rfl ?_
  refine x_iadd 1314 hK rfl rfl ?_
  refine x_scr 1315 41 hX rfl rfl rfl (by omega) (by omega) ?_
  refine x_aload_n 1316 hK rfl rfl l0 ?_
  refine x_iload 1318 hK rfl rfl l4 ?_
  refine x_iconst 1319 hK rfl rfl ?_
  refine x_iadd 1320 hK rfl rfl ?_
  refine x_scr 1321 41 hX rfl rfl rfl (by omega) (by omega) ?_
  refine x_callV 1324 hK hmono rfl rfl [.ref 0, .int (I ((xs (t + 1).toNat).toInt)), .int (I ((xs (t + 2).toNat).toInt))] [] rfl rfl (Nat.le_of_ble_eq_true rfl) (Nat.le_of_ble_eq_true rfl) rfl (s0_ hI) (pr_knows hI hC hb (r_I _) (r_I _)) ?_
  rintro v1 h1 ⟨e1, re1, rfl, hG1, cl1⟩
  refine x_pop 1325 hK rfl rfl rfl ?_
  refine x_aload_n 1326 hK rfl rfl l2 ?_
  refine x_aload_n 1327 hK rfl rfl l0 ?_
  refine x_iload 1329 hK rfl rfl l4 ?_
  refine x_iconst 1330 hK rfl rfl ?_
  refine x_iadd 1331 hK rfl rfl ?_
  refine x_scr 1332 41 hX rfl rfl rfl (by omega) (by omega) ?_
  refine x_aload_n 1333 hK rfl rfl l0 ?_
  refine x_iload 1335 hK rfl rfl l4 ?_
  refine x_iconst 1336 hK rfl rfl ?_
  refine x_iadd 1337 hK rfl rfl ?_
  refine x_scr 1338 41 hX rfl rfl rfl (by omega) (by omega) ?_
  refine x_callV 1341 hK hmono rfl rfl [.ref 171, .int (I ((xs (t + 1).toNat).toInt)), .int (I ((xs (t + 2).toNat).toInt))] [] rfl rfl (Nat.le_of_ble_eq_true rfl) (Nat.le_of_ble_eq_true rfl) rfl (s171g_ hG1) cl1 ?_
  rintro v2 h2 ⟨e2, re2, rfl, ee2, hI2, hC2⟩
  refine x_pop 1342 hK rfl rfl rfl ?_
  refine x_goto 1583 hK rfl rfl ?_
  exact hE _ _ _ _ l0 l1 l2 l3 l4 lo (hI2.mono (by omega)) hC2 (by omega) (by omega)
set_option maxRecDepth 8000 in
theorem lc42 (hK : CLO (CLd SPt 310) ac9L_law (some .boolean) lwQ K) (hX : ∀ (pc : Nat) (ls : List (Nat × Value)) (st : List Value) (h : aH) (bc bs : Nat), lwXR Lx xs K pc ls st h bc bs → K pc ls st h bc bs) {t b : Int} {h : aH} {ls : List (Nat × Value)} {bc bs : Nat} (ht : 0 ≤ t ∧ t + 5 ≤ (Lx : Int)) (hL : Lx ≤ 2560) (hI : INV sh b h) (hC : CR h) (hb : b ≤ 320000) (l0 : lk ls 0 = some (.ref 1000006)) (l1 : lk ls 1 = some (.ref 0)) (l2 : lk ls 2 = some (.ref 171)) (l3 : lk ls 3 = some (.ref 201)) (l4 : lk ls 4 = some (.int (I t))) (lo : lok ls = true) (hbc : 1 ≤ bc) (hbs : 6 ≤ bs)
    (hE : ∀ (ls' : List (Nat × Value)) (h' : aH) (bc' bs' : Nat), lk ls' 0 = some (.ref 1000006) → lk ls' 1 = some (.ref 0) → lk ls' 2 = some (.ref 171) → lk ls' 3 = some (.ref 201) → lk ls' 4 = some (.int (I t)) → lok ls' = true → INV sh (b + 600) h' → CR h' → bc ≤ bc' + 1 → bs ≤ bs' + 6 → K 1583 ls' [] h' bc' bs') : K 1345 ls [] h bc bs := by
  have hK := sub_K hK 42 (S := aS42) rfl
  have hmono := MONO_CLd SPt_mono 310
  refine x_aload_n 1346 hK rfl rfl l1 ?_
  refine x_aload_n 1347 hK rfl rfl l0 ?_
  refine x_iload 1349 hK rfl rfl l4 ?_
  refine x_iconst 1350 hK rfl rfl ?_
  refine x_iadd 1351 hK rfl rfl ?_
  refine x_scr 1352 42 hX rfl rfl rfl (by omega) (by omega) ?_
  refine x_aload_n 1353 hK rfl rfl l0 ?_
  refine x_iload 1355 hK rfl rfl l4 ?_
  refine x_iconst 1356 hK rfl rfl ?_
  refine x_iadd 1357 hK rfl rfl ?_
  refine x_scr 1358 42 hX rfl rfl rfl (by omega) (by omega) ?_
  refine x_aload_n 1359 hK rfl rfl l0 ?_
  refine x_iload 1361 hK rfl rfl l4 ?_
  refine x_iconst 1362 hK rfl rfl ?_
  refine x_iadd 1363 hK rfl rfl ?_
  refine x_scr 1364 42 hX rfl rfl rfl (by omega) (by omega) ?_
  refine x_callV 1367 hK hmono rfl rfl [.ref 0, .int (I ((xs (t + 1).toNat).toInt)), .int (I ((xs (t + 2).toNat).toInt)), .int (I ((xs (t + 3).toNat).toInt))] [] rfl rfl (Nat.le_of_ble_eq_true rfl) (Nat.le_of_ble_eq_true rfl) rfl (s0_ hI) (pr_mutiny hI hC hb (r_I _) (r_I _) (r_I _)) ?_
  rintro v1 h1 ⟨e1, re1, rfl, hG1, cl1⟩
  refine x_pop 1368 hK rfl rfl rfl ?_
  refine x_aload_n 1369 hK rfl rfl l2 ?_
  refine x_aload_n 1370 hK rfl rfl l0 ?_
  refine x_iload 1372 hK rfl rfl l4 ?_
  refine x_iconst 1373 hK rfl rfl ?_
  refine x_iadd 1374 hK rfl rfl ?_
  refine x_scr 1375 42 hX rfl rfl rfl (by omega) (by omega) ?_
  refine x_aload_n 1376 hK rfl rfl l0 ?_
  refine x_iload 1378 hK rfl rfl l4 ?_
  refine x_iconst 1379 hK rfl rfl ?_
  refine x_iadd 1380 hK rfl rfl ?_
  refine x_scr 1381 42 hX rfl rfl rfl (by omega) (by omega) ?_
  refine x_aload_n 1382 hK rfl rfl l0 ?_
  refine x_iload 1384 hK rfl rfl l4 ?_
  refine x_iconst 1385 hK rfl rfl ?_
  refine x_iadd 1386 hK rfl rfl ?_
  refine x_scr 1387 42 hX rfl rfl rfl (by omega) (by omega) ?_
  refine x_callV 1390 hK hmono rfl rfl [.ref 171, .int (I ((xs (t + 1).toNat).toInt)), .int (I ((xs (t + 2).toNat).toInt)), .int (I ((xs (t + 3).toNat).toInt))] [] rfl rfl (Nat.le_of_ble_eq_true rfl) (Nat.le_of_ble_eq_true rfl) rfl (s171g_ hG1) cl1 ?_
  rintro v2 h2 ⟨e2, re2, rfl, ee2, hI2, hC2⟩
  refine x_pop 1391 hK rfl rfl rfl ?_
  refine x_goto 1583 hK rfl rfl ?_
  exact hE _ _ _ _ l0 l1 l2 l3 l4 lo (hI2.mono (by omega)) hC2 (by omega) (by omega)
set_option maxRecDepth 8000 in
theorem lc43 (hK : CLO (CLd SPt 310) ac9L_law (some .boolean) lwQ K) (hX : ∀ (pc : Nat) (ls : List (Nat × Value)) (st : List Value) (h : aH) (bc bs : Nat), lwXR Lx xs K pc ls st h bc bs → K pc ls st h bc bs) {t b : Int} {h : aH} {ls : List (Nat × Value)} {bc bs : Nat} (ht : 0 ≤ t ∧ t + 5 ≤ (Lx : Int)) (hL : Lx ≤ 2560) (hI : INV sh b h) (hC : CR h) (hb : b ≤ 320000) (l0 : lk ls 0 = some (.ref 1000006)) (l1 : lk ls 1 = some (.ref 0)) (l2 : lk ls 2 = some (.ref 171)) (l3 : lk ls 3 = some (.ref 201)) (l4 : lk ls 4 = some (.int (I t))) (lo : lok ls = true) (hbc : 1 ≤ bc) (hbs : 6 ≤ bs)
    (hE : ∀ (ls' : List (Nat × Value)) (h' : aH) (bc' bs' : Nat), lk ls' 0 = some (.ref 1000006) → lk ls' 1 = some (.ref 0) → lk ls' 2 = some (.ref 171) → lk ls' 3 = some (.ref 201) → lk ls' 4 = some (.int (I t)) → lok ls' = true → INV sh (b + 600) h' → CR h' → bc ≤ bc' + 1 → bs ≤ bs' + 6 → K 1583 ls' [] h' bc' bs') : K 1394 ls [] h bc bs := by
  have hK := sub_K hK 43 (S := aS43) rfl
  have hmono := MONO_CLd SPt_mono 310
  refine x_aload_n 1395 hK rfl rfl l1 ?_
  refine x_aload_n 1396 hK rfl rfl l0 ?_
  refine x_iload 1398 hK rfl rfl l4 ?_
  refine x_iconst 1399 hK rfl rfl ?_
  refine x_iadd 1400 hK rfl rfl ?_
  refine x_scr 1401 43 hX rfl rfl rfl (by omega) (by omega) ?_
  refine x_aload_n 1402 hK rfl rfl l0 ?_
  refine x_iload 1404 hK rfl rfl l4 ?_
  refine x_iconst 1405 hK rfl rfl ?_
  refine x_iadd 1406 hK rfl rfl ?_
  refine x_scr 1407 43 hX rfl rfl rfl (by omega) (by omega) ?_
  refine x_aload_n 1408 hK rfl rfl l0 ?_
  refine x_iload 1410 hK rfl rfl l4 ?_
  refine x_iconst 1411 hK rfl rfl ?_
  refine x_iadd 1412 hK rfl rfl ?_
  refine x_scr 1413 43 hX rfl rfl rfl (by omega) (by omega) ?_
  refine x_callV 1416 hK hmono rfl rfl [.ref 0, .int (I ((xs (t + 1).toNat).toInt)), .int (I ((xs (t + 2).toNat).toInt)), .int (I ((xs (t + 3).toNat).toInt))] [] rfl rfl (Nat.le_of_ble_eq_true rfl) (Nat.le_of_ble_eq_true rfl) rfl (s0_ hI) (pr_chance hI hC hb (r_I _) (r_I _) (r_I _)) ?_
  rintro v1 h1 ⟨e1, re1, rfl, hG1, cl1⟩
  refine x_pop 1417 hK rfl rfl rfl ?_
  refine x_aload_n 1418 hK rfl rfl l2 ?_
  refine x_aload_n 1419 hK rfl rfl l0 ?_
  refine x_iload 1421 hK rfl rfl l4 ?_
  refine x_iconst 1422 hK rfl rfl ?_
  refine x_iadd 1423 hK rfl rfl ?_
  refine x_scr 1424 43 hX rfl rfl rfl (by omega) (by omega) ?_
  refine x_aload_n 1425 hK rfl rfl l0 ?_
  refine x_iload 1427 hK rfl rfl l4 ?_
  refine x_iconst 1428 hK rfl rfl ?_
  refine x_iadd 1429 hK rfl rfl ?_
  refine x_scr 1430 43 hX rfl rfl rfl (by omega) (by omega) ?_
  refine x_aload_n 1431 hK rfl rfl l0 ?_
  refine x_iload 1433 hK rfl rfl l4 ?_
  refine x_iconst 1434 hK rfl rfl ?_
  refine x_iadd 1435 hK rfl rfl ?_
  refine x_scr 1436 43 hX rfl rfl rfl (by omega) (by omega) ?_
  refine x_callV 1439 hK hmono rfl rfl [.ref 171, .int (I ((xs (t + 1).toNat).toInt)), .int (I ((xs (t + 2).toNat).toInt)), .int (I ((xs (t + 3).toNat).toInt))] [] rfl rfl (Nat.le_of_ble_eq_true rfl) (Nat.le_of_ble_eq_true rfl) rfl (s171g_ hG1) cl1 ?_
  rintro v2 h2 ⟨e2, re2, rfl, ee2, hI2, hC2⟩
  refine x_pop 1440 hK rfl rfl rfl ?_
  refine x_goto 1583 hK rfl rfl ?_
  exact hE _ _ _ _ l0 l1 l2 l3 l4 lo (hI2.mono (by omega)) hC2 (by omega) (by omega)
set_option maxRecDepth 8000 in
theorem lc44 (hK : CLO (CLd SPt 310) ac9L_law (some .boolean) lwQ K) (hX : ∀ (pc : Nat) (ls : List (Nat × Value)) (st : List Value) (h : aH) (bc bs : Nat), lwXR Lx xs K pc ls st h bc bs → K pc ls st h bc bs) {t b : Int} {h : aH} {ls : List (Nat × Value)} {bc bs : Nat} (ht : 0 ≤ t ∧ t + 5 ≤ (Lx : Int)) (hL : Lx ≤ 2560) (hI : INV sh b h) (hC : CR h) (hb : b ≤ 320000) (l0 : lk ls 0 = some (.ref 1000006)) (l1 : lk ls 1 = some (.ref 0)) (l2 : lk ls 2 = some (.ref 171)) (l3 : lk ls 3 = some (.ref 201)) (l4 : lk ls 4 = some (.int (I t))) (lo : lok ls = true) (hbc : 1 ≤ bc) (hbs : 6 ≤ bs)
    (hE : ∀ (ls' : List (Nat × Value)) (h' : aH) (bc' bs' : Nat), lk ls' 0 = some (.ref 1000006) → lk ls' 1 = some (.ref 0) → lk ls' 2 = some (.ref 171) → lk ls' 3 = some (.ref 201) → lk ls' 4 = some (.int (I t)) → lok ls' = true → INV sh (b + 600) h' → CR h' → bc ≤ bc' + 1 → bs ≤ bs' + 6 → K 1583 ls' [] h' bc' bs') : K 1443 ls [] h bc bs := by
  have hK := sub_K hK 44 (S := aS44) rfl
  have hmono := MONO_CLd SPt_mono 310
  refine x_aload_n 1444 hK rfl rfl l1 ?_
  refine x_aload_n 1445 hK rfl rfl l0 ?_
  refine x_iload 1447 hK rfl rfl l4 ?_
  refine x_iconst 1448 hK rfl rfl ?_
  refine x_iadd 1449 hK rfl rfl ?_
  refine x_scr 1450 44 hX rfl rfl rfl (by omega) (by omega) ?_
  refine x_aload_n 1451 hK rfl rfl l0 ?_
  refine x_iload 1453 hK rfl rfl l4 ?_
  refine x_iconst 1454 hK rfl rfl ?_
  refine x_iadd 1455 hK rfl rfl ?_
  refine x_scr 1456 44 hX rfl rfl rfl (by omega) (by omega) ?_
  refine x_callV 1459 hK hmono rfl rfl [.ref 0, .int (I ((xs (t + 1).toNat).toInt)), .int (I ((xs (t + 2).toNat).toInt))] [] rfl rfl (Nat.le_of_ble_eq_true rfl) (Nat.le_of_ble_eq_true rfl) rfl (s0_ hI) (pr_voyages hI hC hb (r_I _) (r_I _)) ?_
  rintro v1 h1 ⟨e1, re1, rfl, hG1, cl1⟩
  refine x_pop 1460 hK rfl rfl rfl ?_
  refine x_aload_n 1461 hK rfl rfl l2 ?_
  refine x_aload_n 1462 hK rfl rfl l0 ?_
  refine x_iload 1464 hK rfl rfl l4 ?_
  refine x_iconst 1465 hK rfl rfl ?_
  refine x_iadd 1466 hK rfl rfl ?_
  refine x_scr 1467 44 hX rfl rfl rfl (by omega) (by omega) ?_
  refine x_aload_n 1468 hK rfl rfl l0 ?_
  refine x_iload 1470 hK rfl rfl l4 ?_
  refine x_iconst 1471 hK rfl rfl ?_
  refine x_iadd 1472 hK rfl rfl ?_
  refine x_scr 1473 44 hX rfl rfl rfl (by omega) (by omega) ?_
  refine x_callV 1476 hK hmono rfl rfl [.ref 171, .int (I ((xs (t + 1).toNat).toInt)), .int (I ((xs (t + 2).toNat).toInt))] [] rfl rfl (Nat.le_of_ble_eq_true rfl) (Nat.le_of_ble_eq_true rfl) rfl (s171g_ hG1) cl1 ?_
  rintro v2 h2 ⟨e2, re2, rfl, ee2, hI2, hC2⟩
  refine x_pop 1477 hK rfl rfl rfl ?_
  refine x_goto 1583 hK rfl rfl ?_
  exact hE _ _ _ _ l0 l1 l2 l3 l4 lo (hI2.mono (by omega)) hC2 (by omega) (by omega)
set_option maxRecDepth 8000 in
theorem lc45 (hK : CLO (CLd SPt 310) ac9L_law (some .boolean) lwQ K) (hX : ∀ (pc : Nat) (ls : List (Nat × Value)) (st : List Value) (h : aH) (bc bs : Nat), lwXR Lx xs K pc ls st h bc bs → K pc ls st h bc bs) {t b : Int} {h : aH} {ls : List (Nat × Value)} {bc bs : Nat} (ht : 0 ≤ t ∧ t + 5 ≤ (Lx : Int)) (hL : Lx ≤ 2560) (hI : INV sh b h) (hC : CR h) (hb : b ≤ 320000) (l0 : lk ls 0 = some (.ref 1000006)) (l1 : lk ls 1 = some (.ref 0)) (l2 : lk ls 2 = some (.ref 171)) (l3 : lk ls 3 = some (.ref 201)) (l4 : lk ls 4 = some (.int (I t))) (lo : lok ls = true) (hbc : 1 ≤ bc) (hbs : 6 ≤ bs)
    (hE : ∀ (ls' : List (Nat × Value)) (h' : aH) (bc' bs' : Nat), lk ls' 0 = some (.ref 1000006) → lk ls' 1 = some (.ref 0) → lk ls' 2 = some (.ref 171) → lk ls' 3 = some (.ref 201) → lk ls' 4 = some (.int (I t)) → lok ls' = true → INV sh (b + 600) h' → CR h' → bc ≤ bc' + 1 → bs ≤ bs' + 6 → K 1583 ls' [] h' bc' bs') : K 1480 ls [] h bc bs := by
  have hK := sub_K hK 45 (S := aS45) rfl
  have hmono := MONO_CLd SPt_mono 310
  refine x_aload_n 1481 hK rfl rfl l1 ?_
  refine x_aload_n 1482 hK rfl rfl l0 ?_
  refine x_iload 1484 hK rfl rfl l4 ?_
  refine x_iconst 1485 hK rfl rfl ?_
  refine x_iadd 1486 hK rfl rfl ?_
  refine x_scr 1487 45 hX rfl rfl rfl (by omega) (by omega) ?_
  refine x_callV 1490 hK hmono rfl rfl [.ref 0, .int (I ((xs (t + 1).toNat).toInt))] [] rfl rfl (Nat.le_of_ble_eq_true rfl) (Nat.le_of_ble_eq_true rfl) rfl (s0_ hI) (pr_keep hI hC hb (r_I _)) ?_
  rintro v1 h1 ⟨e1, re1, rfl, hG1, cl1⟩
  refine x_pop 1491 hK rfl rfl rfl ?_
  refine x_aload_n 1492 hK rfl rfl l2 ?_
  refine x_aload_n 1493 hK rfl rfl l0 ?_
  refine x_iload 1495 hK rfl rfl l4 ?_
  refine x_iconst 1496 hK rfl rfl ?_
  refine x_iadd 1497 hK rfl rfl ?_
  refine x_scr 1498 45 hX rfl rfl rfl (by omega) (by omega) ?_
  refine x_callV 1501 hK hmono rfl rfl [.ref 171, .int (I ((xs (t + 1).toNat).toInt))] [] rfl rfl (Nat.le_of_ble_eq_true rfl) (Nat.le_of_ble_eq_true rfl) rfl (s171g_ hG1) cl1 ?_
  rintro v2 h2 ⟨e2, re2, rfl, ee2, hI2, hC2⟩
  refine x_pop 1502 hK rfl rfl rfl ?_
  refine x_goto 1583 hK rfl rfl ?_
  exact hE _ _ _ _ l0 l1 l2 l3 l4 lo (hI2.mono (by omega)) hC2 (by omega) (by omega)
set_option maxRecDepth 8000 in
theorem lc46 (hK : CLO (CLd SPt 310) ac9L_law (some .boolean) lwQ K) (hX : ∀ (pc : Nat) (ls : List (Nat × Value)) (st : List Value) (h : aH) (bc bs : Nat), lwXR Lx xs K pc ls st h bc bs → K pc ls st h bc bs) {t b : Int} {h : aH} {ls : List (Nat × Value)} {bc bs : Nat} (ht : 0 ≤ t ∧ t + 5 ≤ (Lx : Int)) (hL : Lx ≤ 2560) (hI : INV sh b h) (hC : CR h) (hb : b ≤ 320000) (l0 : lk ls 0 = some (.ref 1000006)) (l1 : lk ls 1 = some (.ref 0)) (l2 : lk ls 2 = some (.ref 171)) (l3 : lk ls 3 = some (.ref 201)) (l4 : lk ls 4 = some (.int (I t))) (lo : lok ls = true) (hbc : 1 ≤ bc) (hbs : 6 ≤ bs)
    (hE : ∀ (ls' : List (Nat × Value)) (h' : aH) (bc' bs' : Nat), lk ls' 0 = some (.ref 1000006) → lk ls' 1 = some (.ref 0) → lk ls' 2 = some (.ref 171) → lk ls' 3 = some (.ref 201) → lk ls' 4 = some (.int (I t)) → lok ls' = true → INV sh (b + 600) h' → CR h' → bc ≤ bc' + 1 → bs ≤ bs' + 6 → K 1583 ls' [] h' bc' bs') : K 1505 ls [] h bc bs := by
  have hK := sub_K hK 46 (S := aS46) rfl
  have hmono := MONO_CLd SPt_mono 310
  refine x_aload_n 1506 hK rfl rfl l1 ?_
  refine x_aload_n 1507 hK rfl rfl l0 ?_
  refine x_iload 1509 hK rfl rfl l4 ?_
  refine x_iconst 1510 hK rfl rfl ?_
  refine x_iadd 1511 hK rfl rfl ?_
  refine x_scr 1512 46 hX rfl rfl rfl (by omega) (by omega) ?_
  refine x_callV 1515 hK hmono rfl rfl [.ref 0, .int (I ((xs (t + 1).toNat).toInt))] [] rfl rfl (Nat.le_of_ble_eq_true rfl) (Nat.le_of_ble_eq_true rfl) rfl (s0_ hI) (pr_again hI hC hb (r_I _)) ?_
  rintro v1 h1 ⟨e1, re1, rfl, hG1, cl1⟩
  refine x_pop 1516 hK rfl rfl rfl ?_
  refine x_aload_n 1517 hK rfl rfl l2 ?_
  refine x_aload_n 1518 hK rfl rfl l0 ?_
  refine x_iload 1520 hK rfl rfl l4 ?_
  refine x_iconst 1521 hK rfl rfl ?_
  refine x_iadd 1522 hK rfl rfl ?_
  refine x_scr 1523 46 hX rfl rfl rfl (by omega) (by omega) ?_
  refine x_callV 1526 hK hmono rfl rfl [.ref 171, .int (I ((xs (t + 1).toNat).toInt))] [] rfl rfl (Nat.le_of_ble_eq_true rfl) (Nat.le_of_ble_eq_true rfl) rfl (s171g_ hG1) cl1 ?_
  rintro v2 h2 ⟨e2, re2, rfl, ee2, hI2, hC2⟩
  refine x_pop 1527 hK rfl rfl rfl ?_
  refine x_goto 1583 hK rfl rfl ?_
  exact hE _ _ _ _ l0 l1 l2 l3 l4 lo (hI2.mono (by omega)) hC2 (by omega) (by omega)
set_option maxRecDepth 8000 in
theorem lc47 (hK : CLO (CLd SPt 310) ac9L_law (some .boolean) lwQ K) (hX : ∀ (pc : Nat) (ls : List (Nat × Value)) (st : List Value) (h : aH) (bc bs : Nat), lwXR Lx xs K pc ls st h bc bs → K pc ls st h bc bs) {t b : Int} {h : aH} {ls : List (Nat × Value)} {bc bs : Nat} (ht : 0 ≤ t ∧ t + 5 ≤ (Lx : Int)) (hL : Lx ≤ 2560) (hI : INV sh b h) (hC : CR h) (hb : b ≤ 320000) (l0 : lk ls 0 = some (.ref 1000006)) (l1 : lk ls 1 = some (.ref 0)) (l2 : lk ls 2 = some (.ref 171)) (l3 : lk ls 3 = some (.ref 201)) (l4 : lk ls 4 = some (.int (I t))) (lo : lok ls = true) (hbc : 1 ≤ bc) (hbs : 6 ≤ bs)
    (hE : ∀ (ls' : List (Nat × Value)) (h' : aH) (bc' bs' : Nat), lk ls' 0 = some (.ref 1000006) → lk ls' 1 = some (.ref 0) → lk ls' 2 = some (.ref 171) → lk ls' 3 = some (.ref 201) → lk ls' 4 = some (.int (I t)) → lok ls' = true → INV sh (b + 600) h' → CR h' → bc ≤ bc' + 1 → bs ≤ bs' + 6 → K 1583 ls' [] h' bc' bs') : K 1530 ls [] h bc bs := by
  have hK := sub_K hK 47 (S := aS47) rfl
  have hmono := MONO_CLd SPt_mono 310
  refine x_aload_n 1531 hK rfl rfl l1 ?_
  refine x_aload_n 1532 hK rfl rfl l0 ?_
  refine x_iload 1534 hK rfl rfl l4 ?_
  refine x_iconst 1535 hK rfl rfl ?_
  refine x_iadd 1536 hK rfl rfl ?_
  refine x_scr 1537 47 hX rfl rfl rfl (by omega) (by omega) ?_
  refine x_callV 1540 hK hmono rfl rfl [.ref 0, .int (I ((xs (t + 1).toNat).toInt))] [] rfl rfl (Nat.le_of_ble_eq_true rfl) (Nat.le_of_ble_eq_true rfl) rfl (s0_ hI) (pr_count hI hC hb (r_I _)) ?_
  rintro v1 h1 ⟨e1, re1, rfl, hG1, cl1⟩
  refine x_pop 1541 hK rfl rfl rfl ?_
  refine x_aload_n 1542 hK rfl rfl l2 ?_
  refine x_aload_n 1543 hK rfl rfl l0 ?_
  refine x_iload 1545 hK rfl rfl l4 ?_
  refine x_iconst 1546 hK rfl rfl ?_
  refine x_iadd 1547 hK rfl rfl ?_
  refine x_scr 1548 47 hX rfl rfl rfl (by omega) (by omega) ?_
  refine x_callV 1551 hK hmono rfl rfl [.ref 171, .int (I ((xs (t + 1).toNat).toInt))] [] rfl rfl (Nat.le_of_ble_eq_true rfl) (Nat.le_of_ble_eq_true rfl) rfl (s171g_ hG1) cl1 ?_
  rintro v2 h2 ⟨e2, re2, rfl, ee2, hI2, hC2⟩
  refine x_pop 1552 hK rfl rfl rfl ?_
  refine x_goto 1583 hK rfl rfl ?_
  exact hE _ _ _ _ l0 l1 l2 l3 l4 lo (hI2.mono (by omega)) hC2 (by omega) (by omega)
set_option maxRecDepth 8000 in
theorem lc48 (hK : CLO (CLd SPt 310) ac9L_law (some .boolean) lwQ K) (hX : ∀ (pc : Nat) (ls : List (Nat × Value)) (st : List Value) (h : aH) (bc bs : Nat), lwXR Lx xs K pc ls st h bc bs → K pc ls st h bc bs) {t b : Int} {h : aH} {ls : List (Nat × Value)} {bc bs : Nat} (ht : 0 ≤ t ∧ t + 5 ≤ (Lx : Int)) (hL : Lx ≤ 2560) (hI : INV sh b h) (hC : CR h) (hb : b ≤ 320000) (l0 : lk ls 0 = some (.ref 1000006)) (l1 : lk ls 1 = some (.ref 0)) (l2 : lk ls 2 = some (.ref 171)) (l3 : lk ls 3 = some (.ref 201)) (l4 : lk ls 4 = some (.int (I t))) (lo : lok ls = true) (hbc : 1 ≤ bc) (hbs : 6 ≤ bs)
    (hE : ∀ (ls' : List (Nat × Value)) (h' : aH) (bc' bs' : Nat), lk ls' 0 = some (.ref 1000006) → lk ls' 1 = some (.ref 0) → lk ls' 2 = some (.ref 171) → lk ls' 3 = some (.ref 201) → lk ls' 4 = some (.int (I t)) → lok ls' = true → INV sh (b + 600) h' → CR h' → bc ≤ bc' + 1 → bs ≤ bs' + 6 → K 1583 ls' [] h' bc' bs') : K 1555 ls [] h bc bs := by
  have hK := sub_K hK 48 (S := aS48) rfl
  have hmono := MONO_CLd SPt_mono 310
  refine x_aload_n 1556 hK rfl rfl l1 ?_
  refine x_aload_n 1557 hK rfl rfl l0 ?_
  refine x_iload 1559 hK rfl rfl l4 ?_
  refine x_iconst 1560 hK rfl rfl ?_
  refine x_iadd 1561 hK rfl rfl ?_
  refine x_scr 1562 48 hX rfl rfl rfl (by omega) (by omega) ?_
  refine x_aload_n 1563 hK rfl rfl l3 ?_
  refine hX _ _ _ _ _ _ (Or.inr (Or.inr (Or.inr (Or.inr (Or.inr (Or.inr (⟨rfl, sh, _, hI.1, s201_ hI, r_I _, rfl, lok_okv lo (sl_ hI), hbc, hbs, fun v1 h1 hw => ?_⟩)))))))
  obtain ⟨⟨e1, rfl⟩, hI1⟩ := wr_inv hI hw
  have hC1 := wr_cr hC hw
  refine x_istore 1568 hK rfl rfl _ rfl ?_
  have m20 := lk1_n (i := 5) (v := .int (I e1)) l0 (by decide) (Or.inl rfl)
  have m21 := lk1_n (i := 5) (v := .int (I e1)) l1 (by decide) (Or.inl rfl)
  have m22 := lk1_n (i := 5) (v := .int (I e1)) l2 (by decide) (Or.inl rfl)
  have m23 := lk1_n (i := 5) (v := .int (I e1)) l3 (by decide) (Or.inl rfl)
  have m24 := lk1_n (i := 5) (v := .int (I e1)) l4 (by decide) (Or.inl rfl)
  have lo2 := lok_so1 (i := 5) (v := .int (I e1)) lo rfl
  refine x_aload_n 1569 hK rfl rfl m22 ?_
  refine x_aload_n 1570 hK rfl rfl m20 ?_
  refine x_iload 1572 hK rfl rfl m24 ?_
  refine x_iconst 1573 hK rfl rfl ?_
  refine x_iadd 1574 hK rfl rfl ?_
  refine x_scr 1575 48 hX rfl rfl rfl (by omega) (by omega) ?_
  refine x_callV 1578 hK hmono rfl rfl [.ref 171, .int (I ((xs (t + 1).toNat).toInt))] [] rfl rfl (Nat.le_of_ble_eq_true rfl) (Nat.le_of_ble_eq_true rfl) rfl (s171_ hI1) (loX11_row hI1 hb (r_I _)) ?_
  rintro v3 h3 ⟨⟨e3, rfl⟩, hI3, hF3⟩
  have hC3 := CR_F hF3 (by decide +kernel) hC1
  refine x_lstore 1580 hK rfl rfl _ rfl ?_
  have m40 := lk2_n (i := 6) (v := .long e3) m20 (by decide) (by decide) (Or.inl rfl)
  have m41 := lk2_n (i := 6) (v := .long e3) m21 (by decide) (by decide) (Or.inl rfl)
  have m42 := lk2_n (i := 6) (v := .long e3) m22 (by decide) (by decide) (Or.inl rfl)
  have m43 := lk2_n (i := 6) (v := .long e3) m23 (by decide) (by decide) (Or.inl rfl)
  have m44 := lk2_n (i := 6) (v := .long e3) m24 (by decide) (by decide) (Or.inl rfl)
  have lo4 := lok_so2 (i := 6) (v := .long e3) lo2 rfl
  refine x_goto 1583 hK rfl rfl ?_
  exact hE _ _ _ _ m40 m41 m42 m43 m44 lo4 (hI3.mono (by omega)) hC3 (by omega) (by omega)
set_option maxRecDepth 8000 in
set_option maxHeartbeats 2000000 in
theorem law_loop (hK : CLO (CLd SPt 310) ac9L_law (some .boolean) lwQ K) (hX : ∀ (pc : Nat) (ls : List (Nat × Value)) (st : List Value) (h : aH) (bc bs : Nat), lwXR Lx xs K pc ls st h bc bs → K pc ls st h bc bs) (hL : Lx ≤ 2560) : ∀ (n : Nat) (t b : Int) (h : aH) (ls : List (Nat × Value)) (bc bs : Nat), (Lx : Int) - t < 5 * n + 5 → 0 ≤ t → t ≤ Lx + 5 → b + 600 * n ≤ 310000 → n ≤ bc → 6 * n ≤ bs → INV sh b h → CR h → lk ls 0 = some (.ref 1000006) → lk ls 1 = some (.ref 0) → lk ls 2 = some (.ref 171) → lk ls 3 = some (.ref 201) → lk ls 4 = some (.int (I t)) → lok ls = true → K 23 ls [] h bc bs := by
  have hK0 := sub_K hK 0 (S := aS0) rfl
  have hKz := sub_K hK 49 (S := aS49) rfl
  intro n
  induction n with
  | zero =>
    intro t b h ls bc bs hn h0 h5 hb hbc hbs hI hC l0 l1 l2 l3 l4 lo
    refine x_iload 25 hK0 rfl rfl l4 ?_
    refine x_aload_n 26 hK0 rfl rfl l0 ?_
    refine x_slen 27 0 hX rfl rfl rfl ?_
    refine x_iconst 28 hK0 rfl rfl ?_
    refine x_isub 29 hK0 rfl rfl ?_
    refine x_if_icmp_gt 1589 32 hK0 rfl rfl rfl (by omega) (by omega) (fun c9 => ?_) (fun c9 => ?_)
    · refine x_iconst 1590 hKz rfl rfl ?_
      exact x_zret hKz rfl (Or.inr rfl) rfl
    · omega
  | succ n ih =>
    intro t b h ls bc bs hn h0 h5 hb hbc hbs hI hC l0 l1 l2 l3 l4 lo
    refine x_iload 25 hK0 rfl rfl l4 ?_
    refine x_aload_n 26 hK0 rfl rfl l0 ?_
    refine x_slen 27 0 hX rfl rfl rfl ?_
    refine x_iconst 28 hK0 rfl rfl ?_
    refine x_isub 29 hK0 rfl rfl ?_
    refine x_if_icmp_gt 1589 32 hK0 rfl rfl rfl (by omega) (by omega) (fun c9 => ?_) (fun c9 => ?_)
    · refine x_iconst 1590 hKz rfl rfl ?_
      exact x_zret hKz rfl (Or.inr rfl) rfl
    · have hs : 0 ≤ t ∧ t + 5 ≤ (Lx : Int) := by omega
      refine x_aload_n 33 hK0 rfl rfl l0 ?_
      refine x_iload 35 hK0 rfl rfl l4 ?_
      refine x_scr 36 0 hX rfl rfl rfl (by omega) (by omega) ?_
      refine x_bipush 38 hK0 rfl rfl rfl ?_
      refine x_iandX 39 hK0 rfl rfl (fun c rc => ?_)
      refine x_tsw hK0 rfl rc rfl ?_
      have hE : ∀ (ls' : List (Nat × Value)) (h' : aH) (bc' bs' : Nat), lk ls' 0 = some (.ref 1000006) → lk ls' 1 = some (.ref 0) → lk ls' 2 = some (.ref 171) → lk ls' 3 = some (.ref 201) → lk ls' 4 = some (.int (I t)) → lok ls' = true → INV sh (b + 600) h' → CR h' → bc ≤ bc' + 1 → bs ≤ bs' + 6 → K 1583 ls' [] h' bc' bs' := by
        intro ls' h' bc' bs' l0 l1 l2 l3 l4 lo hI' hC' hc hs'
        refine x_iinc 1586 hKz rfl rfl l4 _ rfl ?_
        refine x_goto 23 hKz rfl rfl ?_
        exact ih (t + 5) (b + 600) h' _ bc' bs' (by omega) (by omega) (by omega) (by omega) (by omega) (by omega) hI' hC' (lk1_n l0 (by decide) (Or.inl rfl)) (lk1_n l1 (by decide) (Or.inl rfl)) (lk1_n l2 (by decide) (Or.inl rfl)) (lk1_n l3 (by decide) (Or.inl rfl)) lk1_s (lok_so1 lo rfl)
      rcases (show c = 0 ∨ c = 1 ∨ c = 2 ∨ c = 3 ∨ c = 4 ∨ c = 5 ∨ c = 6 ∨ c = 7 ∨ c = 8 ∨ c = 9 ∨ c = 10 ∨ c = 11 ∨ c = 12 ∨ c = 13 ∨ c = 14 ∨ c = 15 ∨ c = 16 ∨ c = 17 ∨ c = 18 ∨ c = 19 ∨ c = 20 ∨ c = 21 ∨ c = 22 ∨ c = 23 ∨ c = 24 ∨ c = 25 ∨ c = 26 ∨ c = 27 ∨ c = 28 ∨ c = 29 ∨ c = 30 ∨ c = 31 ∨ c = 32 ∨ c = 33 ∨ c = 34 ∨ c = 35 ∨ c = 36 ∨ c = 37 ∨ c = 38 ∨ c = 39 ∨ c = 40 ∨ c = 41 ∨ c = 42 ∨ c = 43 ∨ c = 44 ∨ c = 45 ∨ c = 46 ∨ c = 47 ∨ (c < 0 ∨ 48 ≤ c) by omega) with rfl | rfl | rfl | rfl | rfl | rfl | rfl | rfl | rfl | rfl | rfl | rfl | rfl | rfl | rfl | rfl | rfl | rfl | rfl | rfl | rfl | rfl | rfl | rfl | rfl | rfl | rfl | rfl | rfl | rfl | rfl | rfl | rfl | rfl | rfl | rfl | rfl | rfl | rfl | rfl | rfl | rfl | rfl | rfl | rfl | rfl | rfl | rfl | hc9
      · exact lc1 hK hX hs hL hI hC (by omega) l0 l1 l2 l3 l4 lo (by omega) (by omega) hE
      · exact lc2 hK hX hs hL hI hC (by omega) l0 l1 l2 l3 l4 lo (by omega) (by omega) hE
      · exact lc3 hK hX hs hL hI hC (by omega) l0 l1 l2 l3 l4 lo (by omega) (by omega) hE
      · exact lc4 hK hX hs hL hI hC (by omega) l0 l1 l2 l3 l4 lo (by omega) (by omega) hE
      · exact lc5 hK hX hs hL hI hC (by omega) l0 l1 l2 l3 l4 lo (by omega) (by omega) hE
      · exact lc6 hK hX hs hL hI hC (by omega) l0 l1 l2 l3 l4 lo (by omega) (by omega) hE
      · exact lc7 hK hX hs hL hI hC (by omega) l0 l1 l2 l3 l4 lo (by omega) (by omega) hE
      · exact lc8 hK hX hs hL hI hC (by omega) l0 l1 l2 l3 l4 lo (by omega) (by omega) hE
      · exact lc9 hK hX hs hL hI hC (by omega) l0 l1 l2 l3 l4 lo (by omega) (by omega) hE
      · exact lc10 hK hX hs hL hI hC (by omega) l0 l1 l2 l3 l4 lo (by omega) (by omega) hE
      · exact lc11 hK hX hs hL hI hC (by omega) l0 l1 l2 l3 l4 lo (by omega) (by omega) hE
      · exact lc12 hK hX hs hL hI hC (by omega) l0 l1 l2 l3 l4 lo (by omega) (by omega) hE
      · exact lc13 hK hX hs hL hI hC (by omega) l0 l1 l2 l3 l4 lo (by omega) (by omega) hE
      · exact lc14 hK hX hs hL hI hC (by omega) l0 l1 l2 l3 l4 lo (by omega) (by omega) hE
      · exact lc15 hK hX hs hL hI hC (by omega) l0 l1 l2 l3 l4 lo (by omega) (by omega) hE
      · exact lc16 hK hX hs hL hI hC (by omega) l0 l1 l2 l3 l4 lo (by omega) (by omega) hE
      · exact lc17 hK hX hs hL hI hC (by omega) l0 l1 l2 l3 l4 lo (by omega) (by omega) hE
      · exact lc18 hK hX hs hL hI hC (by omega) l0 l1 l2 l3 l4 lo (by omega) (by omega) hE
      · exact lc19 hK hX hs hL hI hC (by omega) l0 l1 l2 l3 l4 lo (by omega) (by omega) hE
      · exact lc20 hK hX hs hL hI hC (by omega) l0 l1 l2 l3 l4 lo (by omega) (by omega) hE
      · exact lc21 hK hX hs hL hI hC (by omega) l0 l1 l2 l3 l4 lo (by omega) (by omega) hE
      · exact lc22 hK hX hs hL hI hC (by omega) l0 l1 l2 l3 l4 lo (by omega) (by omega) hE
      · exact lc23 hK hX hs hL hI hC (by omega) l0 l1 l2 l3 l4 lo (by omega) (by omega) hE
      · exact lc24 hK hX hs hL hI hC (by omega) l0 l1 l2 l3 l4 lo (by omega) (by omega) hE
      · exact lc25 hK hX hs hL hI hC (by omega) l0 l1 l2 l3 l4 lo (by omega) (by omega) hE
      · exact lc26 hK hX hs hL hI hC (by omega) l0 l1 l2 l3 l4 lo (by omega) (by omega) hE
      · exact lc27 hK hX hs hL hI hC (by omega) l0 l1 l2 l3 l4 lo (by omega) (by omega) hE
      · exact lc28 hK hX hs hL hI hC (by omega) l0 l1 l2 l3 l4 lo (by omega) (by omega) hE
      · exact lc29 hK hX hs hL hI hC (by omega) l0 l1 l2 l3 l4 lo (by omega) (by omega) hE
      · exact lc30 hK hX hs hL hI hC (by omega) l0 l1 l2 l3 l4 lo (by omega) (by omega) hE
      · exact lc31 hK hX hs hL hI hC (by omega) l0 l1 l2 l3 l4 lo (by omega) (by omega) hE
      · exact lc32 hK hX hs hL hI hC (by omega) l0 l1 l2 l3 l4 lo (by omega) (by omega) hE
      · exact lc33 hK hX hs hL hI hC (by omega) l0 l1 l2 l3 l4 lo (by omega) (by omega) hE
      · exact lc34 hK hX hs hL hI hC (by omega) l0 l1 l2 l3 l4 lo (by omega) (by omega) hE
      · exact lc35 hK hX hs hL hI hC (by omega) l0 l1 l2 l3 l4 lo (by omega) (by omega) hE
      · exact lc36 hK hX hs hL hI hC (by omega) l0 l1 l2 l3 l4 lo (by omega) (by omega) hE
      · exact lc37 hK hX hs hL hI hC (by omega) l0 l1 l2 l3 l4 lo (by omega) (by omega) hE
      · exact lc38 hK hX hs hL hI hC (by omega) l0 l1 l2 l3 l4 lo (by omega) (by omega) hE
      · exact lc39 hK hX hs hL hI hC (by omega) l0 l1 l2 l3 l4 lo (by omega) (by omega) hE
      · exact lc40 hK hX hs hL hI hC (by omega) l0 l1 l2 l3 l4 lo (by omega) (by omega) hE
      · exact lc41 hK hX hs hL hI hC (by omega) l0 l1 l2 l3 l4 lo (by omega) (by omega) hE
      · exact lc42 hK hX hs hL hI hC (by omega) l0 l1 l2 l3 l4 lo (by omega) (by omega) hE
      · exact lc43 hK hX hs hL hI hC (by omega) l0 l1 l2 l3 l4 lo (by omega) (by omega) hE
      · exact lc44 hK hX hs hL hI hC (by omega) l0 l1 l2 l3 l4 lo (by omega) (by omega) hE
      · exact lc45 hK hX hs hL hI hC (by omega) l0 l1 l2 l3 l4 lo (by omega) (by omega) hE
      · exact lc46 hK hX hs hL hI hC (by omega) l0 l1 l2 l3 l4 lo (by omega) (by omega) hE
      · exact lc47 hK hX hs hL hI hC (by omega) l0 l1 l2 l3 l4 lo (by omega) (by omega) hE
      · exact lc48 hK hX hs hL hI hC (by omega) l0 l1 l2 l3 l4 lo (by omega) (by omega) hE
      · rw [swI_d hc9]
        exact hE ls h bc bs l0 l1 l2 l3 l4 lo (hI.mono (by omega)) hC (by omega) (by omega)
end LAWR
