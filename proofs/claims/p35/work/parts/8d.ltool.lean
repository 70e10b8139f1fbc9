/-! part 8d: the law: its code, tools -/
def zc_law0 : List zk_Ci := [(0, .new 7, 3, 0, []), (3, .dup, 1, 0, []), (4, .invokespecial 9, 3, 0, []), (7, .astore_n 1, 1, 0, []), (8, .new 10, 3, 0, []), (11, .dup, 1, 0, []), (12, .invokespecial 12, 3, 0, []), (15, .astore_n 2, 1, 0, []), (16, .iconst 0, 1, 0, []), (17, .istore_n 3, 1, 0, []), (18, .iload_n 3, 1, 0, []), (19, .aload_n 0, 1, 0, []), (20, .arraylength, 1, 0, []), (21, .bipush 6, 2, 0, []), (23, .isub, 1, 0, []), (24, .if_icmp .gt 1354, 3, 0, []), (27, .aload_n 0, 1, 0, []), (28, .iload_n 3, 1, 0, []), (29, .iaload, 1, 0, []), (30, .bipush 63, 2, 0, []), (32, .iand, 1, 0, []), (33, .tableswitch 1339 0 41 #[183, 226, 259, 292, 325, 388, 421, 454, 517, 540, 553, 566, 579, 592, 605, 618, 641, 674, 697, 730, 743, 766, 779, 822, 865, 898, 921, 964, 997, 1020, 1053, 1096, 1109, 1122, 1145, 1178, 1201, 1234, 1257, 1280, 1303, 1326], 183, 0, []), (216, .aload_n 1, 1, 0, []), (217, .aload_n 0, 1, 0, []), (218, .iload_n 3, 1, 0, []), (219, .iconst 1, 1, 0, []), (220, .iadd, 1, 0, []), (221, .iaload, 1, 0, []), (222, .aload_n 0, 1, 0, []), (223, .iload_n 3, 1, 0, []), (224, .iconst 2, 1, 0, []), (225, .iadd, 1, 0, []), (226, .iaload, 1, 0, []), (227, .aload_n 0, 1, 0, []), (228, .iload_n 3, 1, 0, []), (229, .iconst 3, 1, 0, []), (230, .iadd, 1, 0, []), (231, .iaload, 1, 0, []), (232, .invokevirtual 13, 3, 0, []), (235, .pop, 1, 0, [])]
theorem zd_law0 : ∀ q ∈ zc_law0, decode code q.1 = .ok (q.2.1, q.2.2.1) := by decide +kernel
def zc_law1 : List zk_Ci := [(236, .aload_n 2, 1, 0, []), (237, .aload_n 0, 1, 0, []), (238, .iload_n 3, 1, 0, []), (239, .iconst 1, 1, 0, []), (240, .iadd, 1, 0, []), (241, .iaload, 1, 0, []), (242, .aload_n 0, 1, 0, []), (243, .iload_n 3, 1, 0, []), (244, .iconst 2, 1, 0, []), (245, .iadd, 1, 0, []), (246, .iaload, 1, 0, []), (247, .aload_n 0, 1, 0, []), (248, .iload_n 3, 1, 0, []), (249, .iconst 3, 1, 0, []), (250, .iadd, 1, 0, []), (251, .iaload, 1, 0, []), (252, .invokevirtual 17, 3, 0, []), (255, .pop, 1, 0, []), (256, .goto 1116, 3, 0, []), (259, .aload_n 1, 1, 0, []), (260, .aload_n 0, 1, 0, []), (261, .iload_n 3, 1, 0, []), (262, .iconst 1, 1, 0, []), (263, .iadd, 1, 0, []), (264, .iaload, 1, 0, []), (265, .aload_n 0, 1, 0, []), (266, .iload_n 3, 1, 0, []), (267, .iconst 2, 1, 0, []), (268, .iadd, 1, 0, []), (269, .iaload, 1, 0, []), (270, .invokevirtual 18, 3, 0, []), (273, .pop, 1, 0, []), (274, .aload_n 2, 1, 0, []), (275, .aload_n 0, 1, 0, []), (276, .iload_n 3, 1, 0, []), (277, .iconst 1, 1, 0, []), (278, .iadd, 1, 0, []), (279, .iaload, 1, 0, []), (280, .aload_n 0, 1, 0, []), (281, .iload_n 3, 1, 0, [])]
theorem zd_law1 : ∀ q ∈ zc_law1, decode code q.1 = .ok (q.2.1, q.2.2.1) := by decide +kernel
def zc_law2 : List zk_Ci := [(282, .iconst 2, 1, 0, []), (283, .iadd, 1, 0, []), (284, .iaload, 1, 0, []), (285, .invokevirtual 22, 3, 0, []), (288, .pop, 1, 0, []), (289, .goto 1083, 3, 0, []), (292, .aload_n 1, 1, 0, []), (293, .aload_n 0, 1, 0, []), (294, .iload_n 3, 1, 0, []), (295, .iconst 1, 1, 0, []), (296, .iadd, 1, 0, []), (297, .iaload, 1, 0, []), (298, .aload_n 0, 1, 0, []), (299, .iload_n 3, 1, 0, []), (300, .iconst 2, 1, 0, []), (301, .iadd, 1, 0, []), (302, .iaload, 1, 0, []), (303, .invokevirtual 23, 3, 0, []), (306, .pop, 1, 0, []), (307, .aload_n 2, 1, 0, []), (308, .aload_n 0, 1, 0, []), (309, .iload_n 3, 1, 0, []), (310, .iconst 1, 1, 0, []), (311, .iadd, 1, 0, []), (312, .iaload, 1, 0, []), (313, .aload_n 0, 1, 0, []), (314, .iload_n 3, 1, 0, []), (315, .iconst 2, 1, 0, []), (316, .iadd, 1, 0, []), (317, .iaload, 1, 0, []), (318, .invokevirtual 26, 3, 0, []), (321, .pop, 1, 0, []), (322, .goto 1050, 3, 0, []), (325, .aload_n 1, 1, 0, []), (326, .aload_n 0, 1, 0, []), (327, .iload_n 3, 1, 0, []), (328, .iconst 1, 1, 0, []), (329, .iadd, 1, 0, []), (330, .iaload, 1, 0, []), (331, .aload_n 0, 1, 0, [])]
theorem zd_law2 : ∀ q ∈ zc_law2, decode code q.1 = .ok (q.2.1, q.2.2.1) := by decide +kernel
def zc_law3 : List zk_Ci := [(332, .iload_n 3, 1, 0, []), (333, .iconst 2, 1, 0, []), (334, .iadd, 1, 0, []), (335, .iaload, 1, 0, []), (336, .invokevirtual 27, 3, 0, []), (339, .pop, 1, 0, []), (340, .aload_n 2, 1, 0, []), (341, .aload_n 0, 1, 0, []), (342, .iload_n 3, 1, 0, []), (343, .iconst 1, 1, 0, []), (344, .iadd, 1, 0, []), (345, .iaload, 1, 0, []), (346, .aload_n 0, 1, 0, []), (347, .iload_n 3, 1, 0, []), (348, .iconst 2, 1, 0, []), (349, .iadd, 1, 0, []), (350, .iaload, 1, 0, []), (351, .invokevirtual 30, 3, 0, []), (354, .pop, 1, 0, []), (355, .goto 1017, 3, 0, []), (358, .aload_n 1, 1, 0, []), (359, .aload_n 0, 1, 0, []), (360, .iload_n 3, 1, 0, []), (361, .iconst 1, 1, 0, []), (362, .iadd, 1, 0, []), (363, .iaload, 1, 0, []), (364, .aload_n 0, 1, 0, []), (365, .iload_n 3, 1, 0, []), (366, .iconst 2, 1, 0, []), (367, .iadd, 1, 0, []), (368, .iaload, 1, 0, []), (369, .aload_n 0, 1, 0, []), (370, .iload_n 3, 1, 0, []), (371, .iconst 3, 1, 0, []), (372, .iadd, 1, 0, []), (373, .iaload, 1, 0, []), (374, .aload_n 0, 1, 0, []), (375, .iload_n 3, 1, 0, []), (376, .iconst 4, 1, 0, []), (377, .iadd, 1, 0, [])]
theorem zd_law3 : ∀ q ∈ zc_law3, decode code q.1 = .ok (q.2.1, q.2.2.1) := by decide +kernel
def zc_law4 : List zk_Ci := [(378, .iaload, 1, 0, []), (379, .aload_n 0, 1, 0, []), (380, .iload_n 3, 1, 0, []), (381, .iconst 5, 1, 0, []), (382, .iadd, 1, 0, []), (383, .iaload, 1, 0, []), (384, .invokevirtual 31, 3, 0, []), (387, .pop, 1, 0, []), (388, .aload_n 2, 1, 0, []), (389, .aload_n 0, 1, 0, []), (390, .iload_n 3, 1, 0, []), (391, .iconst 1, 1, 0, []), (392, .iadd, 1, 0, []), (393, .iaload, 1, 0, []), (394, .aload_n 0, 1, 0, []), (395, .iload_n 3, 1, 0, []), (396, .iconst 2, 1, 0, []), (397, .iadd, 1, 0, []), (398, .iaload, 1, 0, []), (399, .aload_n 0, 1, 0, []), (400, .iload_n 3, 1, 0, []), (401, .iconst 3, 1, 0, []), (402, .iadd, 1, 0, []), (403, .iaload, 1, 0, []), (404, .aload_n 0, 1, 0, []), (405, .iload_n 3, 1, 0, []), (406, .iconst 4, 1, 0, []), (407, .iadd, 1, 0, []), (408, .iaload, 1, 0, []), (409, .aload_n 0, 1, 0, []), (410, .iload_n 3, 1, 0, []), (411, .iconst 5, 1, 0, []), (412, .iadd, 1, 0, []), (413, .iaload, 1, 0, []), (414, .invokevirtual 35, 3, 0, []), (417, .pop, 1, 0, []), (418, .goto 954, 3, 0, []), (421, .aload_n 1, 1, 0, []), (422, .aload_n 0, 1, 0, []), (423, .iload_n 3, 1, 0, [])]
theorem zd_law4 : ∀ q ∈ zc_law4, decode code q.1 = .ok (q.2.1, q.2.2.1) := by decide +kernel
def zc_law5 : List zk_Ci := [(424, .iconst 1, 1, 0, []), (425, .iadd, 1, 0, []), (426, .iaload, 1, 0, []), (427, .aload_n 0, 1, 0, []), (428, .iload_n 3, 1, 0, []), (429, .iconst 2, 1, 0, []), (430, .iadd, 1, 0, []), (431, .iaload, 1, 0, []), (432, .invokevirtual 36, 3, 0, []), (435, .pop, 1, 0, []), (436, .aload_n 2, 1, 0, []), (437, .aload_n 0, 1, 0, []), (438, .iload_n 3, 1, 0, []), (439, .iconst 1, 1, 0, []), (440, .iadd, 1, 0, []), (441, .iaload, 1, 0, []), (442, .aload_n 0, 1, 0, []), (443, .iload_n 3, 1, 0, []), (444, .iconst 2, 1, 0, []), (445, .iadd, 1, 0, []), (446, .iaload, 1, 0, []), (447, .invokevirtual 39, 3, 0, []), (450, .pop, 1, 0, []), (451, .goto 921, 3, 0, []), (454, .aload_n 1, 1, 0, []), (455, .aload_n 0, 1, 0, []), (456, .iload_n 3, 1, 0, []), (457, .iconst 1, 1, 0, []), (458, .iadd, 1, 0, []), (459, .iaload, 1, 0, []), (460, .aload_n 0, 1, 0, []), (461, .iload_n 3, 1, 0, []), (462, .iconst 2, 1, 0, []), (463, .iadd, 1, 0, []), (464, .iaload, 1, 0, []), (465, .invokevirtual 40, 3, 0, []), (468, .pop, 1, 0, []), (469, .aload_n 2, 1, 0, []), (470, .aload_n 0, 1, 0, []), (471, .iload_n 3, 1, 0, [])]
theorem zd_law5 : ∀ q ∈ zc_law5, decode code q.1 = .ok (q.2.1, q.2.2.1) := by decide +kernel
def zc_law6 : List zk_Ci := [(472, .iconst 1, 1, 0, []), (473, .iadd, 1, 0, []), (474, .iaload, 1, 0, []), (475, .aload_n 0, 1, 0, []), (476, .iload_n 3, 1, 0, []), (477, .iconst 2, 1, 0, []), (478, .iadd, 1, 0, []), (479, .iaload, 1, 0, []), (480, .invokevirtual 43, 3, 0, []), (483, .pop, 1, 0, []), (484, .goto 888, 3, 0, []), (487, .aload_n 1, 1, 0, []), (488, .aload_n 0, 1, 0, []), (489, .iload_n 3, 1, 0, []), (490, .iconst 1, 1, 0, []), (491, .iadd, 1, 0, []), (492, .iaload, 1, 0, []), (493, .aload_n 0, 1, 0, []), (494, .iload_n 3, 1, 0, []), (495, .iconst 2, 1, 0, []), (496, .iadd, 1, 0, []), (497, .iaload, 1, 0, []), (498, .aload_n 0, 1, 0, []), (499, .iload_n 3, 1, 0, []), (500, .iconst 3, 1, 0, []), (501, .iadd, 1, 0, []), (502, .iaload, 1, 0, []), (503, .aload_n 0, 1, 0, []), (504, .iload_n 3, 1, 0, []), (505, .iconst 4, 1, 0, []), (506, .iadd, 1, 0, []), (507, .iaload, 1, 0, []), (508, .aload_n 0, 1, 0, []), (509, .iload_n 3, 1, 0, []), (510, .iconst 5, 1, 0, []), (511, .iadd, 1, 0, []), (512, .iaload, 1, 0, []), (513, .invokevirtual 44, 3, 0, []), (516, .pop, 1, 0, []), (517, .aload_n 2, 1, 0, [])]
theorem zd_law6 : ∀ q ∈ zc_law6, decode code q.1 = .ok (q.2.1, q.2.2.1) := by decide +kernel
def zc_law7 : List zk_Ci := [(518, .aload_n 0, 1, 0, []), (519, .iload_n 3, 1, 0, []), (520, .iconst 1, 1, 0, []), (521, .iadd, 1, 0, []), (522, .iaload, 1, 0, []), (523, .aload_n 0, 1, 0, []), (524, .iload_n 3, 1, 0, []), (525, .iconst 2, 1, 0, []), (526, .iadd, 1, 0, []), (527, .iaload, 1, 0, []), (528, .aload_n 0, 1, 0, []), (529, .iload_n 3, 1, 0, []), (530, .iconst 3, 1, 0, []), (531, .iadd, 1, 0, []), (532, .iaload, 1, 0, []), (533, .aload_n 0, 1, 0, []), (534, .iload_n 3, 1, 0, []), (535, .iconst 4, 1, 0, []), (536, .iadd, 1, 0, []), (537, .iaload, 1, 0, []), (538, .aload_n 0, 1, 0, []), (539, .iload_n 3, 1, 0, []), (540, .iconst 5, 1, 0, []), (541, .iadd, 1, 0, []), (542, .iaload, 1, 0, []), (543, .invokevirtual 47, 3, 0, []), (546, .pop, 1, 0, []), (547, .goto 825, 3, 0, []), (550, .aload_n 1, 1, 0, []), (551, .aload_n 0, 1, 0, []), (552, .iload_n 3, 1, 0, []), (553, .iconst 1, 1, 0, []), (554, .iadd, 1, 0, []), (555, .iaload, 1, 0, []), (556, .invokevirtual 48, 3, 0, []), (559, .pop, 1, 0, []), (560, .aload_n 2, 1, 0, []), (561, .aload_n 0, 1, 0, []), (562, .iload_n 3, 1, 0, []), (563, .iconst 1, 1, 0, [])]
theorem zd_law7 : ∀ q ∈ zc_law7, decode code q.1 = .ok (q.2.1, q.2.2.1) := by decide +kernel
def zc_law8 : List zk_Ci := [(564, .iadd, 1, 0, []), (565, .iaload, 1, 0, []), (566, .invokevirtual 52, 3, 0, []), (569, .pop, 1, 0, []), (570, .goto 802, 3, 0, []), (573, .aload_n 1, 1, 0, []), (574, .invokevirtual 53, 3, 0, []), (577, .pop, 1, 0, []), (578, .aload_n 2, 1, 0, []), (579, .invokevirtual 57, 3, 0, []), (582, .pop, 1, 0, []), (583, .goto 789, 3, 0, []), (586, .aload_n 1, 1, 0, []), (587, .invokevirtual 58, 3, 0, []), (590, .pop, 1, 0, []), (591, .aload_n 2, 1, 0, []), (592, .invokevirtual 61, 3, 0, []), (595, .pop, 1, 0, []), (596, .goto 776, 3, 0, []), (599, .aload_n 1, 1, 0, []), (600, .invokevirtual 62, 3, 0, []), (603, .pop, 1, 0, []), (604, .aload_n 2, 1, 0, []), (605, .invokevirtual 65, 3, 0, []), (608, .pop, 1, 0, []), (609, .goto 763, 3, 0, []), (612, .aload_n 1, 1, 0, []), (613, .invokevirtual 66, 3, 0, []), (616, .pop, 1, 0, []), (617, .aload_n 2, 1, 0, []), (618, .invokevirtual 69, 3, 0, []), (621, .pop, 1, 0, []), (622, .goto 750, 3, 0, []), (625, .aload_n 1, 1, 0, []), (626, .invokevirtual 70, 3, 0, []), (629, .pop, 1, 0, []), (630, .aload_n 2, 1, 0, []), (631, .invokevirtual 73, 3, 0, []), (634, .pop, 1, 0, []), (635, .goto 737, 3, 0, [])]
theorem zd_law8 : ∀ q ∈ zc_law8, decode code q.1 = .ok (q.2.1, q.2.2.1) := by decide +kernel
def zc_law9 : List zk_Ci := [(638, .aload_n 1, 1, 0, []), (639, .invokevirtual 74, 3, 0, []), (642, .pop, 1, 0, []), (643, .aload_n 2, 1, 0, []), (644, .invokevirtual 77, 3, 0, []), (647, .pop, 1, 0, []), (648, .goto 724, 3, 0, []), (651, .aload_n 1, 1, 0, []), (652, .aload_n 0, 1, 0, []), (653, .iload_n 3, 1, 0, []), (654, .iconst 1, 1, 0, []), (655, .iadd, 1, 0, []), (656, .iaload, 1, 0, []), (657, .invokevirtual 78, 3, 0, []), (660, .pop, 1, 0, []), (661, .aload_n 2, 1, 0, []), (662, .aload_n 0, 1, 0, []), (663, .iload_n 3, 1, 0, []), (664, .iconst 1, 1, 0, []), (665, .iadd, 1, 0, []), (666, .iaload, 1, 0, []), (667, .invokevirtual 81, 3, 0, []), (670, .pop, 1, 0, []), (671, .goto 701, 3, 0, []), (674, .aload_n 1, 1, 0, []), (675, .aload_n 0, 1, 0, []), (676, .iload_n 3, 1, 0, []), (677, .iconst 1, 1, 0, []), (678, .iadd, 1, 0, []), (679, .iaload, 1, 0, []), (680, .aload_n 0, 1, 0, []), (681, .iload_n 3, 1, 0, []), (682, .iconst 2, 1, 0, []), (683, .iadd, 1, 0, []), (684, .iaload, 1, 0, []), (685, .invokevirtual 82, 3, 0, []), (688, .pop, 1, 0, []), (689, .aload_n 2, 1, 0, []), (690, .aload_n 0, 1, 0, []), (691, .iload_n 3, 1, 0, [])]
theorem zd_law9 : ∀ q ∈ zc_law9, decode code q.1 = .ok (q.2.1, q.2.2.1) := by decide +kernel
def zc_law10 : List zk_Ci := [(692, .iconst 1, 1, 0, []), (693, .iadd, 1, 0, []), (694, .iaload, 1, 0, []), (695, .aload_n 0, 1, 0, []), (696, .iload_n 3, 1, 0, []), (697, .iconst 2, 1, 0, []), (698, .iadd, 1, 0, []), (699, .iaload, 1, 0, []), (700, .invokevirtual 85, 3, 0, []), (703, .pop, 1, 0, []), (704, .goto 668, 3, 0, []), (707, .aload_n 1, 1, 0, []), (708, .aload_n 0, 1, 0, []), (709, .iload_n 3, 1, 0, []), (710, .iconst 1, 1, 0, []), (711, .iadd, 1, 0, []), (712, .iaload, 1, 0, []), (713, .invokevirtual 86, 3, 0, []), (716, .pop, 1, 0, []), (717, .aload_n 2, 1, 0, []), (718, .aload_n 0, 1, 0, []), (719, .iload_n 3, 1, 0, []), (720, .iconst 1, 1, 0, []), (721, .iadd, 1, 0, []), (722, .iaload, 1, 0, []), (723, .invokevirtual 89, 3, 0, []), (726, .pop, 1, 0, []), (727, .goto 645, 3, 0, []), (730, .aload_n 1, 1, 0, []), (731, .aload_n 0, 1, 0, []), (732, .iload_n 3, 1, 0, []), (733, .iconst 1, 1, 0, []), (734, .iadd, 1, 0, []), (735, .iaload, 1, 0, []), (736, .aload_n 0, 1, 0, []), (737, .iload_n 3, 1, 0, []), (738, .iconst 2, 1, 0, []), (739, .iadd, 1, 0, []), (740, .iaload, 1, 0, []), (741, .invokevirtual 90, 3, 0, [])]
theorem zd_law10 : ∀ q ∈ zc_law10, decode code q.1 = .ok (q.2.1, q.2.2.1) := by decide +kernel
def zc_law11 : List zk_Ci := [(744, .pop, 1, 0, []), (745, .aload_n 2, 1, 0, []), (746, .aload_n 0, 1, 0, []), (747, .iload_n 3, 1, 0, []), (748, .iconst 1, 1, 0, []), (749, .iadd, 1, 0, []), (750, .iaload, 1, 0, []), (751, .aload_n 0, 1, 0, []), (752, .iload_n 3, 1, 0, []), (753, .iconst 2, 1, 0, []), (754, .iadd, 1, 0, []), (755, .iaload, 1, 0, []), (756, .invokevirtual 93, 3, 0, []), (759, .pop, 1, 0, []), (760, .goto 612, 3, 0, []), (763, .aload_n 1, 1, 0, []), (764, .invokevirtual 94, 3, 0, []), (767, .pop, 1, 0, []), (768, .aload_n 2, 1, 0, []), (769, .invokevirtual 97, 3, 0, []), (772, .pop, 1, 0, []), (773, .goto 599, 3, 0, []), (776, .aload_n 1, 1, 0, []), (777, .aload_n 0, 1, 0, []), (778, .iload_n 3, 1, 0, []), (779, .iconst 1, 1, 0, []), (780, .iadd, 1, 0, []), (781, .iaload, 1, 0, []), (782, .invokevirtual 98, 3, 0, []), (785, .pop, 1, 0, []), (786, .aload_n 2, 1, 0, []), (787, .aload_n 0, 1, 0, []), (788, .iload_n 3, 1, 0, []), (789, .iconst 1, 1, 0, []), (790, .iadd, 1, 0, []), (791, .iaload, 1, 0, []), (792, .invokevirtual 101, 3, 0, []), (795, .pop, 1, 0, []), (796, .goto 576, 3, 0, []), (799, .aload_n 1, 1, 0, [])]
theorem zd_law11 : ∀ q ∈ zc_law11, decode code q.1 = .ok (q.2.1, q.2.2.1) := by decide +kernel
def zc_law12 : List zk_Ci := [(800, .invokevirtual 102, 3, 0, []), (803, .pop, 1, 0, []), (804, .aload_n 2, 1, 0, []), (805, .invokevirtual 105, 3, 0, []), (808, .pop, 1, 0, []), (809, .goto 563, 3, 0, []), (812, .aload_n 1, 1, 0, []), (813, .aload_n 0, 1, 0, []), (814, .iload_n 3, 1, 0, []), (815, .iconst 1, 1, 0, []), (816, .iadd, 1, 0, []), (817, .iaload, 1, 0, []), (818, .aload_n 0, 1, 0, []), (819, .iload_n 3, 1, 0, []), (820, .iconst 2, 1, 0, []), (821, .iadd, 1, 0, []), (822, .iaload, 1, 0, []), (823, .aload_n 0, 1, 0, []), (824, .iload_n 3, 1, 0, []), (825, .iconst 3, 1, 0, []), (826, .iadd, 1, 0, []), (827, .iaload, 1, 0, []), (828, .invokevirtual 106, 3, 0, []), (831, .pop, 1, 0, []), (832, .aload_n 2, 1, 0, []), (833, .aload_n 0, 1, 0, []), (834, .iload_n 3, 1, 0, []), (835, .iconst 1, 1, 0, []), (836, .iadd, 1, 0, []), (837, .iaload, 1, 0, []), (838, .aload_n 0, 1, 0, []), (839, .iload_n 3, 1, 0, []), (840, .iconst 2, 1, 0, []), (841, .iadd, 1, 0, []), (842, .iaload, 1, 0, []), (843, .aload_n 0, 1, 0, []), (844, .iload_n 3, 1, 0, []), (845, .iconst 3, 1, 0, []), (846, .iadd, 1, 0, []), (847, .iaload, 1, 0, [])]
theorem zd_law12 : ∀ q ∈ zc_law12, decode code q.1 = .ok (q.2.1, q.2.2.1) := by decide +kernel
def zc_law13 : List zk_Ci := [(848, .invokevirtual 109, 3, 0, []), (851, .pop, 1, 0, []), (852, .goto 520, 3, 0, []), (855, .aload_n 1, 1, 0, []), (856, .aload_n 0, 1, 0, []), (857, .iload_n 3, 1, 0, []), (858, .iconst 1, 1, 0, []), (859, .iadd, 1, 0, []), (860, .iaload, 1, 0, []), (861, .aload_n 0, 1, 0, []), (862, .iload_n 3, 1, 0, []), (863, .iconst 2, 1, 0, []), (864, .iadd, 1, 0, []), (865, .iaload, 1, 0, []), (866, .aload_n 0, 1, 0, []), (867, .iload_n 3, 1, 0, []), (868, .iconst 3, 1, 0, []), (869, .iadd, 1, 0, []), (870, .iaload, 1, 0, []), (871, .invokevirtual 110, 3, 0, []), (874, .pop, 1, 0, []), (875, .aload_n 2, 1, 0, []), (876, .aload_n 0, 1, 0, []), (877, .iload_n 3, 1, 0, []), (878, .iconst 1, 1, 0, []), (879, .iadd, 1, 0, []), (880, .iaload, 1, 0, []), (881, .aload_n 0, 1, 0, []), (882, .iload_n 3, 1, 0, []), (883, .iconst 2, 1, 0, []), (884, .iadd, 1, 0, []), (885, .iaload, 1, 0, []), (886, .aload_n 0, 1, 0, []), (887, .iload_n 3, 1, 0, []), (888, .iconst 3, 1, 0, []), (889, .iadd, 1, 0, []), (890, .iaload, 1, 0, []), (891, .invokevirtual 113, 3, 0, []), (894, .pop, 1, 0, []), (895, .goto 477, 3, 0, [])]
theorem zd_law13 : ∀ q ∈ zc_law13, decode code q.1 = .ok (q.2.1, q.2.2.1) := by decide +kernel
def zc_law14 : List zk_Ci := [(898, .aload_n 1, 1, 0, []), (899, .aload_n 0, 1, 0, []), (900, .iload_n 3, 1, 0, []), (901, .iconst 1, 1, 0, []), (902, .iadd, 1, 0, []), (903, .iaload, 1, 0, []), (904, .aload_n 0, 1, 0, []), (905, .iload_n 3, 1, 0, []), (906, .iconst 2, 1, 0, []), (907, .iadd, 1, 0, []), (908, .iaload, 1, 0, []), (909, .invokevirtual 114, 3, 0, []), (912, .pop, 1, 0, []), (913, .aload_n 2, 1, 0, []), (914, .aload_n 0, 1, 0, []), (915, .iload_n 3, 1, 0, []), (916, .iconst 1, 1, 0, []), (917, .iadd, 1, 0, []), (918, .iaload, 1, 0, []), (919, .aload_n 0, 1, 0, []), (920, .iload_n 3, 1, 0, []), (921, .iconst 2, 1, 0, []), (922, .iadd, 1, 0, []), (923, .iaload, 1, 0, []), (924, .invokevirtual 117, 3, 0, []), (927, .pop, 1, 0, []), (928, .goto 444, 3, 0, []), (931, .aload_n 1, 1, 0, []), (932, .aload_n 0, 1, 0, []), (933, .iload_n 3, 1, 0, []), (934, .iconst 1, 1, 0, []), (935, .iadd, 1, 0, []), (936, .iaload, 1, 0, []), (937, .invokevirtual 118, 3, 0, []), (940, .pop, 1, 0, []), (941, .aload_n 2, 1, 0, []), (942, .aload_n 0, 1, 0, []), (943, .iload_n 3, 1, 0, []), (944, .iconst 1, 1, 0, []), (945, .iadd, 1, 0, [])]
theorem zd_law14 : ∀ q ∈ zc_law14, decode code q.1 = .ok (q.2.1, q.2.2.1) := by decide +kernel
def zc_law15 : List zk_Ci := [(946, .iaload, 1, 0, []), (947, .invokevirtual 121, 3, 0, []), (950, .pop, 1, 0, []), (951, .goto 421, 3, 0, []), (954, .aload_n 1, 1, 0, []), (955, .aload_n 0, 1, 0, []), (956, .iload_n 3, 1, 0, []), (957, .iconst 1, 1, 0, []), (958, .iadd, 1, 0, []), (959, .iaload, 1, 0, []), (960, .aload_n 0, 1, 0, []), (961, .iload_n 3, 1, 0, []), (962, .iconst 2, 1, 0, []), (963, .iadd, 1, 0, []), (964, .iaload, 1, 0, []), (965, .aload_n 0, 1, 0, []), (966, .iload_n 3, 1, 0, []), (967, .iconst 3, 1, 0, []), (968, .iadd, 1, 0, []), (969, .iaload, 1, 0, []), (970, .invokevirtual 122, 3, 0, []), (973, .pop, 1, 0, []), (974, .aload_n 2, 1, 0, []), (975, .aload_n 0, 1, 0, []), (976, .iload_n 3, 1, 0, []), (977, .iconst 1, 1, 0, []), (978, .iadd, 1, 0, []), (979, .iaload, 1, 0, []), (980, .aload_n 0, 1, 0, []), (981, .iload_n 3, 1, 0, []), (982, .iconst 2, 1, 0, []), (983, .iadd, 1, 0, []), (984, .iaload, 1, 0, []), (985, .aload_n 0, 1, 0, []), (986, .iload_n 3, 1, 0, []), (987, .iconst 3, 1, 0, []), (988, .iadd, 1, 0, []), (989, .iaload, 1, 0, []), (990, .invokevirtual 125, 3, 0, []), (993, .pop, 1, 0, [])]
theorem zd_law15 : ∀ q ∈ zc_law15, decode code q.1 = .ok (q.2.1, q.2.2.1) := by decide +kernel
def zc_law16 : List zk_Ci := [(994, .goto 378, 3, 0, []), (997, .aload_n 1, 1, 0, []), (998, .aload_n 0, 1, 0, []), (999, .iload_n 3, 1, 0, []), (1000, .iconst 1, 1, 0, []), (1001, .iadd, 1, 0, []), (1002, .iaload, 1, 0, []), (1003, .aload_n 0, 1, 0, []), (1004, .iload_n 3, 1, 0, []), (1005, .iconst 2, 1, 0, []), (1006, .iadd, 1, 0, []), (1007, .iaload, 1, 0, []), (1008, .invokevirtual 126, 3, 0, []), (1011, .pop, 1, 0, []), (1012, .aload_n 2, 1, 0, []), (1013, .aload_n 0, 1, 0, []), (1014, .iload_n 3, 1, 0, []), (1015, .iconst 1, 1, 0, []), (1016, .iadd, 1, 0, []), (1017, .iaload, 1, 0, []), (1018, .aload_n 0, 1, 0, []), (1019, .iload_n 3, 1, 0, []), (1020, .iconst 2, 1, 0, []), (1021, .iadd, 1, 0, []), (1022, .iaload, 1, 0, []), (1023, .invokevirtual 129, 3, 0, []), (1026, .pop, 1, 0, []), (1027, .goto 345, 3, 0, []), (1030, .aload_n 1, 1, 0, []), (1031, .aload_n 0, 1, 0, []), (1032, .iload_n 3, 1, 0, []), (1033, .iconst 1, 1, 0, []), (1034, .iadd, 1, 0, []), (1035, .iaload, 1, 0, []), (1036, .invokevirtual 130, 3, 0, []), (1039, .pop, 1, 0, []), (1040, .aload_n 2, 1, 0, []), (1041, .aload_n 0, 1, 0, []), (1042, .iload_n 3, 1, 0, []), (1043, .iconst 1, 1, 0, [])]
theorem zd_law16 : ∀ q ∈ zc_law16, decode code q.1 = .ok (q.2.1, q.2.2.1) := by decide +kernel
def zc_law17 : List zk_Ci := [(1044, .iadd, 1, 0, []), (1045, .iaload, 1, 0, []), (1046, .invokevirtual 133, 3, 0, []), (1049, .pop, 1, 0, []), (1050, .goto 322, 3, 0, []), (1053, .aload_n 1, 1, 0, []), (1054, .aload_n 0, 1, 0, []), (1055, .iload_n 3, 1, 0, []), (1056, .iconst 1, 1, 0, []), (1057, .iadd, 1, 0, []), (1058, .iaload, 1, 0, []), (1059, .aload_n 0, 1, 0, []), (1060, .iload_n 3, 1, 0, []), (1061, .iconst 2, 1, 0, []), (1062, .iadd, 1, 0, []), (1063, .iaload, 1, 0, []), (1064, .invokevirtual 134, 3, 0, []), (1067, .pop2, 1, 0, []), (1068, .aload_n 2, 1, 0, []), (1069, .aload_n 0, 1, 0, []), (1070, .iload_n 3, 1, 0, []), (1071, .iconst 1, 1, 0, []), (1072, .iadd, 1, 0, []), (1073, .iaload, 1, 0, []), (1074, .aload_n 0, 1, 0, []), (1075, .iload_n 3, 1, 0, []), (1076, .iconst 2, 1, 0, []), (1077, .iadd, 1, 0, []), (1078, .iaload, 1, 0, []), (1079, .invokevirtual 138, 3, 0, []), (1082, .pop2, 1, 0, []), (1083, .goto 289, 3, 0, []), (1086, .aload_n 1, 1, 0, []), (1087, .aload_n 0, 1, 0, []), (1088, .iload_n 3, 1, 0, []), (1089, .iconst 1, 1, 0, []), (1090, .iadd, 1, 0, []), (1091, .iaload, 1, 0, []), (1092, .aload_n 0, 1, 0, []), (1093, .iload_n 3, 1, 0, [])]
theorem zd_law17 : ∀ q ∈ zc_law17, decode code q.1 = .ok (q.2.1, q.2.2.1) := by decide +kernel
def zc_law18 : List zk_Ci := [(1094, .iconst 2, 1, 0, []), (1095, .iadd, 1, 0, []), (1096, .iaload, 1, 0, []), (1097, .aload_n 0, 1, 0, []), (1098, .iload_n 3, 1, 0, []), (1099, .iconst 3, 1, 0, []), (1100, .iadd, 1, 0, []), (1101, .iaload, 1, 0, []), (1102, .invokevirtual 139, 3, 0, []), (1105, .pop, 1, 0, []), (1106, .aload_n 2, 1, 0, []), (1107, .aload_n 0, 1, 0, []), (1108, .iload_n 3, 1, 0, []), (1109, .iconst 1, 1, 0, []), (1110, .iadd, 1, 0, []), (1111, .iaload, 1, 0, []), (1112, .aload_n 0, 1, 0, []), (1113, .iload_n 3, 1, 0, []), (1114, .iconst 2, 1, 0, []), (1115, .iadd, 1, 0, []), (1116, .iaload, 1, 0, []), (1117, .aload_n 0, 1, 0, []), (1118, .iload_n 3, 1, 0, []), (1119, .iconst 3, 1, 0, []), (1120, .iadd, 1, 0, []), (1121, .iaload, 1, 0, []), (1122, .invokevirtual 142, 3, 0, []), (1125, .pop, 1, 0, []), (1126, .goto 246, 3, 0, []), (1129, .aload_n 1, 1, 0, []), (1130, .invokevirtual 143, 3, 0, []), (1133, .pop, 1, 0, []), (1134, .aload_n 2, 1, 0, []), (1135, .invokevirtual 146, 3, 0, []), (1138, .pop, 1, 0, []), (1139, .goto 233, 3, 0, []), (1142, .aload_n 1, 1, 0, []), (1143, .invokevirtual 147, 3, 0, []), (1146, .pop, 1, 0, []), (1147, .aload_n 2, 1, 0, [])]
theorem zd_law18 : ∀ q ∈ zc_law18, decode code q.1 = .ok (q.2.1, q.2.2.1) := by decide +kernel
def zc_law19 : List zk_Ci := [(1148, .invokevirtual 150, 3, 0, []), (1151, .pop, 1, 0, []), (1152, .goto 220, 3, 0, []), (1155, .aload_n 1, 1, 0, []), (1156, .aload_n 0, 1, 0, []), (1157, .iload_n 3, 1, 0, []), (1158, .iconst 1, 1, 0, []), (1159, .iadd, 1, 0, []), (1160, .iaload, 1, 0, []), (1161, .invokevirtual 151, 3, 0, []), (1164, .aload_n 2, 1, 0, []), (1165, .aload_n 0, 1, 0, []), (1166, .iload_n 3, 1, 0, []), (1167, .iconst 1, 1, 0, []), (1168, .iadd, 1, 0, []), (1169, .iaload, 1, 0, []), (1170, .invokevirtual 154, 3, 0, []), (1173, .if_icmp .eq 199, 3, 0, []), (1176, .iconst 0, 1, 0, []), (1177, .ireturn, 1, 0, []), (1178, .aload_n 1, 1, 0, []), (1179, .aload_n 0, 1, 0, []), (1180, .iload_n 3, 1, 0, []), (1181, .iconst 1, 1, 0, []), (1182, .iadd, 1, 0, []), (1183, .iaload, 1, 0, []), (1184, .aload_n 0, 1, 0, []), (1185, .iload_n 3, 1, 0, []), (1186, .iconst 2, 1, 0, []), (1187, .iadd, 1, 0, []), (1188, .iaload, 1, 0, []), (1189, .invokevirtual 155, 3, 0, []), (1192, .pop, 1, 0, []), (1193, .aload_n 2, 1, 0, []), (1194, .aload_n 0, 1, 0, []), (1195, .iload_n 3, 1, 0, []), (1196, .iconst 1, 1, 0, []), (1197, .iadd, 1, 0, []), (1198, .iaload, 1, 0, []), (1199, .aload_n 0, 1, 0, [])]
theorem zd_law19 : ∀ q ∈ zc_law19, decode code q.1 = .ok (q.2.1, q.2.2.1) := by decide +kernel
def zc_law20 : List zk_Ci := [(1200, .iload_n 3, 1, 0, []), (1201, .iconst 2, 1, 0, []), (1202, .iadd, 1, 0, []), (1203, .iaload, 1, 0, []), (1204, .invokevirtual 158, 3, 0, []), (1207, .pop, 1, 0, []), (1208, .goto 164, 3, 0, []), (1211, .aload_n 1, 1, 0, []), (1212, .aload_n 0, 1, 0, []), (1213, .iload_n 3, 1, 0, []), (1214, .iconst 1, 1, 0, []), (1215, .iadd, 1, 0, []), (1216, .iaload, 1, 0, []), (1217, .invokevirtual 159, 3, 0, []), (1220, .pop, 1, 0, []), (1221, .aload_n 2, 1, 0, []), (1222, .aload_n 0, 1, 0, []), (1223, .iload_n 3, 1, 0, []), (1224, .iconst 1, 1, 0, []), (1225, .iadd, 1, 0, []), (1226, .iaload, 1, 0, []), (1227, .invokevirtual 162, 3, 0, []), (1230, .pop, 1, 0, []), (1231, .goto 141, 3, 0, []), (1234, .aload_n 1, 1, 0, []), (1235, .aload_n 0, 1, 0, []), (1236, .iload_n 3, 1, 0, []), (1237, .iconst 1, 1, 0, []), (1238, .iadd, 1, 0, []), (1239, .iaload, 1, 0, []), (1240, .aload_n 0, 1, 0, []), (1241, .iload_n 3, 1, 0, []), (1242, .iconst 2, 1, 0, []), (1243, .iadd, 1, 0, []), (1244, .iaload, 1, 0, []), (1245, .invokevirtual 163, 3, 0, []), (1248, .pop, 1, 0, []), (1249, .aload_n 2, 1, 0, []), (1250, .aload_n 0, 1, 0, []), (1251, .iload_n 3, 1, 0, [])]
theorem zd_law20 : ∀ q ∈ zc_law20, decode code q.1 = .ok (q.2.1, q.2.2.1) := by decide +kernel
def zc_law21 : List zk_Ci := [(1252, .iconst 1, 1, 0, []), (1253, .iadd, 1, 0, []), (1254, .iaload, 1, 0, []), (1255, .aload_n 0, 1, 0, []), (1256, .iload_n 3, 1, 0, []), (1257, .iconst 2, 1, 0, []), (1258, .iadd, 1, 0, []), (1259, .iaload, 1, 0, []), (1260, .invokevirtual 166, 3, 0, []), (1263, .pop, 1, 0, []), (1264, .goto 108, 3, 0, []), (1267, .aload_n 1, 1, 0, []), (1268, .aload_n 0, 1, 0, []), (1269, .iload_n 3, 1, 0, []), (1270, .iconst 1, 1, 0, []), (1271, .iadd, 1, 0, []), (1272, .iaload, 1, 0, []), (1273, .invokevirtual 167, 3, 0, []), (1276, .pop, 1, 0, []), (1277, .aload_n 2, 1, 0, []), (1278, .aload_n 0, 1, 0, []), (1279, .iload_n 3, 1, 0, []), (1280, .iconst 1, 1, 0, []), (1281, .iadd, 1, 0, []), (1282, .iaload, 1, 0, []), (1283, .invokevirtual 170, 3, 0, []), (1286, .pop, 1, 0, []), (1287, .goto 85, 3, 0, []), (1290, .aload_n 1, 1, 0, []), (1291, .aload_n 0, 1, 0, []), (1292, .iload_n 3, 1, 0, []), (1293, .iconst 1, 1, 0, []), (1294, .iadd, 1, 0, []), (1295, .iaload, 1, 0, []), (1296, .invokevirtual 171, 3, 0, []), (1299, .pop, 1, 0, []), (1300, .aload_n 2, 1, 0, []), (1301, .aload_n 0, 1, 0, []), (1302, .iload_n 3, 1, 0, []), (1303, .iconst 1, 1, 0, [])]
theorem zd_law21 : ∀ q ∈ zc_law21, decode code q.1 = .ok (q.2.1, q.2.2.1) := by decide +kernel
def zc_law22 : List zk_Ci := [(1304, .iadd, 1, 0, []), (1305, .iaload, 1, 0, []), (1306, .invokevirtual 174, 3, 0, []), (1309, .pop, 1, 0, []), (1310, .goto 62, 3, 0, []), (1313, .aload_n 1, 1, 0, []), (1314, .aload_n 0, 1, 0, []), (1315, .iload_n 3, 1, 0, []), (1316, .iconst 1, 1, 0, []), (1317, .iadd, 1, 0, []), (1318, .iaload, 1, 0, []), (1319, .invokevirtual 175, 3, 0, []), (1322, .pop, 1, 0, []), (1323, .aload_n 2, 1, 0, []), (1324, .aload_n 0, 1, 0, []), (1325, .iload_n 3, 1, 0, []), (1326, .iconst 1, 1, 0, []), (1327, .iadd, 1, 0, []), (1328, .iaload, 1, 0, []), (1329, .invokevirtual 178, 3, 0, []), (1332, .pop, 1, 0, []), (1333, .goto 39, 3, 0, []), (1336, .aload_n 1, 1, 0, []), (1337, .aload_n 0, 1, 0, []), (1338, .iload_n 3, 1, 0, []), (1339, .iconst 1, 1, 0, []), (1340, .iadd, 1, 0, []), (1341, .iaload, 1, 0, []), (1342, .invokevirtual 179, 3, 0, []), (1345, .pop, 1, 0, []), (1346, .aload_n 2, 1, 0, []), (1347, .aload_n 0, 1, 0, []), (1348, .iload_n 3, 1, 0, []), (1349, .iconst 1, 1, 0, []), (1350, .iadd, 1, 0, []), (1351, .iaload, 1, 0, []), (1352, .invokevirtual 182, 3, 0, []), (1355, .pop, 1, 0, []), (1356, .goto 16, 3, 0, []), (1359, .aload_n 1, 1, 0, [])]
theorem zd_law22 : ∀ q ∈ zc_law22, decode code q.1 = .ok (q.2.1, q.2.2.1) := by decide +kernel
def zc_law23 : List zk_Ci := [(1360, .invokevirtual 183, 3, 0, []), (1363, .pop, 1, 0, []), (1364, .aload_n 2, 1, 0, []), (1365, .invokevirtual 186, 3, 0, []), (1368, .pop, 1, 0, []), (1369, .goto 3, 3, 0, []), (1372, .iinc 3 6, 3, 0, []), (1375, .goto (-1357), 3, 0, []), (1378, .iconst 1, 1, 0, []), (1379, .ireturn, 1, 0, [])]
theorem zd_law23 : ∀ q ∈ zc_law23, decode code q.1 = .ok (q.2.1, q.2.2.1) := by decide +kernel
/-- an int of the script -/
def zl_y (xs : Nat → Int32) (j k : Nat) : Int := (xs (6 * j + k)).toInt
theorem zl_yo {P : Nat → Option Nat} {xs : Nat → Int32} {j k : Nat} : zk_ok P (0, 0, -2147483648, 2147483647) (zl_y xs j k) := by
  have h1 : -2147483648 ≤ zl_y xs j k := (xs (6 * j + k)).le_toInt
  have h2 : zl_y xs j k ≤ 2147483647 := (xs (6 * j + k)).toInt_le
  exact ⟨h1, h2, h1, h2⟩
/-- what stays through the law's run -/
def zl_C (p : Program) (s : State) (m : MethodId) (args : Array Value) (c : Code) (w : zk_W) (b L : Nat) (xs : Nat → Int32) : Prop := p.tables.exec = Jvm.exec ∧ c.code = code ∧ c.maxLocals = 4 ∧ s.vm.findClass "WoundTownLaw" = some m.cls ∧ (∀ x ∈ zt_TB, x.before args s = true) ∧ w.2.2.2.1 = s.heap.size ∧ va_K w.2.2.1 w.2.1 [] s ∧ w.2.2.2.2.2 s ∧ zh_W w ∧ va_X b L xs s s.heap ∧ b < s.heap.size ∧ L ≤ 3072
/-- what holds of the cells -/
def zl_I (w : zk_W) (s : State) (P : Nat → Option Nat) (F : Nat → va_E) (H : Heap) (locs : List Loc) : Prop := zk_wt w s P F H ∧ va_S (fun q => w.2.2.2.1 ≤ q) s.heap H locs ∧ ∀ t a, w.2.2.2.2.1 t a → P a = some t
def zl_cb (K : zk_K) (how mcm msm kd : Nat) : Bool := zp_rc K && (zk_Kk K == 1 && (zk_hk how == 1 && (decide ((zk_Kr K).1 + 1 ≤ 2048) && (decide (8 + (K.2.2.1 + 11) + (zk_Kr K).2.1 ≤ 84000) && (decide ((zk_Kr K).2.2.1 ≤ mcm) && (decide ((zk_Kr K).2.2.2 ≤ msm) && (zk_Ka K).all (fun al => match al.1 with
  | some f => f.1 == kd
  | none => false)))))))
section ZL8D
variable {p : Program} {l : Launch} {e : Env} {s : State} {m : MethodId} {args : Array Value} {below : List Frame} {meth : Method} {c : Code} {Q : State → Prop} {w : zk_W} {b L : Nat} {xs : Nat → Int32}
variable {P : Nat → Option Nat} {F : Nat → va_E} {H : Heap} {locs : List Loc} {cu su pc : Nat} {ls : Array Slot} {rest st : List Value}
theorem zl_call (hC : zl_C p s m args c w b L xs) (kd : Nat) {K : zk_K} {A : zk_Q} {B : zk_B} (hKX : zk_metX l w zt_dv zt_TB K A B ∧ zk_cok w zt_TB K) {how idx mi mcm msm : Nat} {pl : List Nat} (hlb : zt_lcb "WoundTownLaw" ((how, idx, mi), pl) = true) (hmn : K.1 = zt_mn mi) (hcb : zl_cb K how mcm msm kd = true) (hdg : decode code pc = .ok (zk_ins how idx, 3)) (hI : zl_I w s P F H locs) (ps : List Int) (hS : (zk_avs (zk_Kp K) ps).reverse ++ rest = st) (hok : zk_all2 (zk_ok P) (zk_Kp K) ps) (hA : A P F ps) (hsz : ls.size = 4) (hcat : (rest.map fun v => v.category).sum ≤ 8) (hf : cu + mcm ≤ 600000 ∧ su + msm ≤ 7302250)
    (kk : ∀ al ∈ zk_Ka K, ∀ (rn : Int) (P' : Nat → Option Nat) (F' : Nat → va_E) (H' : Heap) (locs' : List Loc), (∀ a y, P a = some y → P' a = some y) → zl_I w s P' F' H' locs' → zp_fr (zk_Ke K) ps P (zp_n F) (zp_n F') → (∀ f, al.1 = some f → zk_ok P' f rn) → (∀ q ∈ al.2, zk_num ps rn q.1 ≤ zk_num ps rn q.2.1 + q.2.2) → B P F ps P' F' rn → W p l e room_1 s m args below meth c H' locs' (cu + mcm) (su + msm) Q (F0 m (pc + 3) ls (zk_mk kd rn :: rest))) : W p l e room_1 s m args below meth c H locs cu su Q (F0 m pc ls st) := by
  obtain ⟨hx, hb, hml, hown, hts, hbs, hK0, hZ, hW, hX, hbl, hL⟩ := hC
  have hw := hW.1
  obtain ⟨hM, hCk⟩ := hKX
  unfold zl_cb at hcb
  simp only [Bool.and_eq_true, decide_eq_true_eq, beq_iff_eq] at hcb
  obtain ⟨c1, c2, c3, c4, c5, c6, c7, c8⟩ := hcb
  obtain ⟨i1, i2, i3⟩ := hI
  have hlc := zt_lcb_ok hlb hts
  dsimp only at hlc
  rw [← hmn] at hlc
  have hgood : GoodIn zt_TB (Jvm.Cond.code K.1 K.2.1 K.2.2.1 K.2.2.2.1 :: zt_TB) := by
    intro x hx'
    rcases List.mem_cons.mp hx' with rfl | hx'
    · exact zt_good _ hCk.2.2.2.2.1
    · exact zt_good x hx'
  have hbH : w.2.2.2.1 ≤ H.size := by rw [hbs]; exact i2.1
  have hpre : ∀ U : State, U.heap = H → s.WarmedH U.vm → zk_pre w zt_dv K P F ps H.size U := fun U hU hWm =>
    ⟨by rw [hU], hbH, by rw [hU]; exact i1.moved hWm.alike, va_K.moved hWm.alike hK0, fun hk => absurd (c2.symm.trans hk) (by decide), hW.2.2.1.1 s U hWm (fun q hq => by rw [hU]; exact i2.2.1 q (by rw [← hbs]; exact hq) (Nat.not_le.mpr hq)) hZ, i3⟩
  have hrc : zk_Kk K = 1 → ∃ b : Nat, ps[0]? = some (b : Int) ∧ (∃ f, (zk_Kp K)[0]? = some f ∧ 2 ≤ f.1) ∧ ∃ cell : Cell, H[b]? = some cell ∧ cell.vm.isStatics = false ∧ s.vm.findClass K.1.cls = some cell.cls := by
    intro hk
    unfold zp_rc at c1
    simp only [Bool.and_eq_true, Bool.or_eq_true, beq_iff_eq] at c1
    rcases c1 with c1 | ⟨-, c1⟩
    · exact absurd (hk.symm.trans c1) (by decide)
    · split at c1
      · rename_i f hf
        simp only [Bool.and_eq_true, beq_iff_eq, decide_eq_true_eq] at c1
        obtain ⟨⟨z1, z2⟩, z3⟩ := c1
        split at z3
        · rename_i T hT
          simp only [Bool.and_eq_true, beq_iff_eq, decide_eq_true_eq] at z3
          obtain ⟨⟨z3, z4⟩, z5⟩ := z3
          obtain ⟨n, n1, n2⟩ := zk_all2_get hok hf
          obtain ⟨fk, ft, fl, fh⟩ := f
          dsimp only at z1 z2 hT
          subst z1
          have n2 : fl ≤ n ∧ -1 ≤ n ∧ (fh < 0 → n < 0) ∧ (0 ≤ n → P n.toNat = some ft) := n2
          have hn0 : 0 ≤ n := Int.le_trans z2 n2.1
          have hp := n2.2.2.2 hn0
          obtain ⟨fs, o1, o2, o3, o4⟩ := zk_obj i1 hp (by rw [hw]; exact hT) z3
          rw [z4] at o3
          refine ⟨n.toNat, by rw [n1, Int.toNat_of_nonneg hn0], ⟨_, hf, Nat.le_refl _⟩, ?_⟩
          rcases hCk.2.2.2.2.2.1 (fun h => absurd (c2.symm.trans h) (by decide)) with ⟨-, T0, N0, hcl⟩ | ⟨h9, -⟩
          · exact va_recv hK0 (zk_P1 o3) hcl (q0 := 0) rfl
          · exact absurd h9 z5
        · cases z3
      · cases c1
  have hrun := zk_run hx hb hW.2.2.1 (locs := locs) (cu := cu) (su := su) (pc := pc) (ls := ls) (rest := rest) (e := e) (below := below) (meth := meth) hml hown hts hM hCk hgood hlc (c3.trans c2.symm) hok hA hpre hrc (fun h => absurd (c2.symm.trans h) (by decide)) hsz hcat (R := room_1) ⟨c4, c5⟩ ⟨by show _ ≤ 600000; omega, by show _ ≤ 7302250; omega⟩ hdg
  rw [hS] at hrun
  intro T hT X
  obtain ⟨v, st₀, t, T', Lc, h0, X', hLc, f1', f2', hpost, st'⟩ := hrun T hT X
  obtain ⟨al, al1, rn, P', F', f1, f2, f3, f4, f5, f6, f7, f8, f9, g1, g2, hBB⟩ := hpost
  rw [h0] at f8 f9 g1
  have hvm : t.vm.Alike s.vm := by
    have := X'.warmed.alike
    rw [f2'] at this
    exact this.symm
  rw [← f1'] at f4 f8 f9 g1
  have hI' : zl_I w s P' F' T'.heap (locs ++ Lc) := by
    refine ⟨f4.moved hvm, ⟨Nat.le_trans i2.1 f8, fun q g1 g2 => ?_, fun q hq => ?_⟩, fun t a h => f6 a t (i3 t a h)⟩
    · rw [f9 q (Nat.lt_of_lt_of_le g1 i2.1) (Nat.not_le.mp g2)]
      exact i2.2.1 q g1 g2
    · rcases List.mem_append.mp hq with g | g
      · exact i2.2.2 q g
      · exact hLc q g
  have h8 := List.all_eq_true.mp c8 al al1
  cases hal : al.1 with
  | none => rw [hal] at h8; cases h8
  | some f =>
    rw [hal] at h8 f1
    have hf0 : f.1 = kd := by simpa using h8
    have f1 : v = some (zk_mk kd rn) := by
      cases f1
      show some (zk_mk f.1 rn) = _
      rw [hf0]
    subst f1
    obtain ⟨t2, a1, b1'⟩ := W.widen (Nat.add_le_add_left c6 cu) (Nat.add_le_add_left c7 su) (kk al al1 rn P' F' T'.heap (locs ++ Lc) f6 hI' (zp_ef_fr f7) (fun f hf => (f2 f hf).1) f3 hBB) T' rfl X'
    exact ⟨t2, st' t2 a1, b1'⟩
theorem zl_callp (hC : zl_C p s m args c w b L xs) {K : zk_K} {A : zk_Q} {B : zk_B} (hKX : zk_metX l w zt_dv zt_TB K A B ∧ zk_cok w zt_TB K) {how idx mi mcm msm : Nat} {pl : List Nat} (hlb : zt_lcb "WoundTownLaw" ((how, idx, mi), pl) = true) (hmn : K.1 = zt_mn mi) (hcb : zl_cb K how mcm msm 0 = true) (hdg : decode code pc = .ok (zk_ins how idx, 3)) (hpop : decode code (pc + 3) = .ok (.pop, 1)) (hI : zl_I w s P F H locs) (ps : List Int) (hS : (zk_avs (zk_Kp K) ps).reverse ++ [] = st) (hok : zk_all2 (zk_ok P) (zk_Kp K) ps) (hA : A P F ps) (hsz : ls.size = 4) (hf : cu + mcm ≤ 600000 ∧ su + msm ≤ 7302250)
    (kk : ∀ al ∈ zk_Ka K, ∀ (rn : Int) (P' : Nat → Option Nat) (F' : Nat → va_E) (H' : Heap) (locs' : List Loc), (∀ a y, P a = some y → P' a = some y) → zl_I w s P' F' H' locs' → zp_fr (zk_Ke K) ps P (zp_n F) (zp_n F') → (∀ f, al.1 = some f → zk_ok P' f rn) → (∀ q ∈ al.2, zk_num ps rn q.1 ≤ zk_num ps rn q.2.1 + q.2.2) → B P F ps P' F' rn → W p l e room_1 s m args below meth c H' locs' (cu + mcm) (su + msm) Q (F0 m (pc + 4) ls [])) : W p l e room_1 s m args below meth c H locs cu su Q (F0 m pc ls st) :=
  zl_call hC 0 hKX hlb hmn hcb hdg hI ps hS hok hA hsz (Nat.zero_le 8) hf (fun al hal rn P' F' H' locs' hext hI' hfr hok' hcs hB => lv_pop (pc := pc + 3) hC.1 hC.2.1 hpop rfl (kk al hal rn P' F' H' locs' hext hI' hfr hok' hcs hB))
theorem zl_callq (hC : zl_C p s m args c w b L xs) {K : zk_K} {A : zk_Q} {B : zk_B} (hKX : zk_metX l w zt_dv zt_TB K A B ∧ zk_cok w zt_TB K) {how idx mi mcm msm : Nat} {pl : List Nat} (hlb : zt_lcb "WoundTownLaw" ((how, idx, mi), pl) = true) (hmn : K.1 = zt_mn mi) (hcb : zl_cb K how mcm msm 1 = true) (hdg : decode code pc = .ok (zk_ins how idx, 3)) (hpop : decode code (pc + 3) = .ok (.pop2, 1)) (hI : zl_I w s P F H locs) (ps : List Int) (hS : (zk_avs (zk_Kp K) ps).reverse ++ [] = st) (hok : zk_all2 (zk_ok P) (zk_Kp K) ps) (hA : A P F ps) (hsz : ls.size = 4) (hf : cu + mcm ≤ 600000 ∧ su + msm ≤ 7302250)
    (kk : ∀ al ∈ zk_Ka K, ∀ (rn : Int) (P' : Nat → Option Nat) (F' : Nat → va_E) (H' : Heap) (locs' : List Loc), (∀ a y, P a = some y → P' a = some y) → zl_I w s P' F' H' locs' → zp_fr (zk_Ke K) ps P (zp_n F) (zp_n F') → (∀ f, al.1 = some f → zk_ok P' f rn) → (∀ q ∈ al.2, zk_num ps rn q.1 ≤ zk_num ps rn q.2.1 + q.2.2) → B P F ps P' F' rn → W p l e room_1 s m args below meth c H' locs' (cu + mcm) (su + msm) Q (F0 m (pc + 4) ls [])) : W p l e room_1 s m args below meth c H locs cu su Q (F0 m pc ls st) :=
  zl_call hC 1 hKX hlb hmn hcb hdg hI ps hS hok hA hsz (Nat.zero_le 8) hf (fun al hal rn P' F' H' locs' hext hI' hfr hok' hcs hB => lv_pop2_2 (pc := pc + 3) hC.1 hC.2.1 hpop rfl (kk al hal rn P' F' H' locs' hext hI' hfr hok' hcs hB))
theorem zl_this (hC : zl_C p s m args c w b L xs) {k : Fin 4} {i a : Nat} (hdg : decode code pc = .ok (.aload_n k, 1)) (hi : (k : Nat) = i) (hl : ls[i]? = some (.val (.ref a))) (kk : W p l e room_1 s m args below meth c H locs cu su Q (F0 m (pc + 1) ls (zk_mk 2 (a : Int) :: rest))) : W p l e room_1 s m args below meth c H locs cu su Q (F0 m pc ls rest) := by
  rw [zk_mk_ref (Nat.le_refl 2), if_neg (by omega), Int.toNat_natCast] at kk
  exact lv_aload_n hC.1 hC.2.1 hdg hi hl kk
theorem zl_idx {j k : Nat} (hj : 6 * j + k < 3072) : (nI (6 * j + k)).toNatClampNeg = 6 * j + k := by
  show (nI (6 * j + k)).toInt.toNat = _
  rw [nI_toInt (by omega)]
  omega
theorem zl_ld (hC : zl_C p s m args c w b L xs) (hI : zl_I w s P F H locs) {j k : Nat} (hj : 6 * j + k < L) (hdg : decode code pc = .ok (.iaload, 1)) (kk : W p l e room_1 s m args below meth c H locs cu su Q (F0 m (pc + 1) ls (zk_mk 0 (zl_y xs j k) :: rest))) : W p l e room_1 s m args below meth c H locs cu su Q (F0 m pc ls (.int (nI (6 * j + k)) :: .ref b :: rest)) := by
  obtain ⟨hx, hb, hml, hown, hts, hbs, hK0, hZ, hW, hX, hbl, hL⟩ := hC
  refine va_sld hx hb hX hbl (A := fun q => w.2.2.2.1 ≤ q) (by rw [hbs]; omega) hI.2.1 (vp_in_nI hj (by omega)) hdg ?_
  rw [zl_idx (by omega), show xs (6 * j + k) = Int32.ofInt (zl_y xs j k) from (Int32.ofInt_toInt _).symm]
  exact kk
theorem zl_arg (hC : zl_C p s m args c w b L xs) (hI : zl_I w s P F H locs) {j k : Nat} {n : Int} (hj : 6 * j + k < L) (hn : Int32.ofInt n = nI k) (hl0 : ls[0]? = some (.val (.ref b))) (hl3 : ls[3]? = some (.val (.int (nI (6 * j))))) (i0 : decode code pc = .ok (.aload_n 0, 1)) (i1 : decode code (pc + 1) = .ok (.iload_n 3, 1)) (i2 : decode code (pc + 2) = .ok (.iconst n, 1)) (i3 : decode code (pc + 3) = .ok (.iadd, 1)) (i4 : decode code (pc + 4) = .ok (.iaload, 1)) (kk : W p l e room_1 s m args below meth c H locs cu su Q (F0 m (pc + 5) ls (zk_mk 0 (zl_y xs j k) :: rest))) : W p l e room_1 s m args below meth c H locs cu su Q (F0 m pc ls rest) := by
  refine lv_aload_n (pc := pc) hC.1 hC.2.1 i0 rfl hl0 ?_
  refine lv_iload_n (pc := pc + 1) hC.1 hC.2.1 i1 rfl hl3 ?_
  refine lv_iconst (pc := pc + 2) (v := nI k) hC.1 hC.2.1 i2 hn ?_
  refine lv_iadd (pc := pc + 3) hC.1 hC.2.1 i3 ?_
  rw [nI_add]
  exact zl_ld (pc := pc + 4) hC hI hj i4 kk
end ZL8D
theorem zl_mtu {t : Nat} (h : 107 ≤ t) : zl_mt t = t := by
  unfold zl_mt
  rw [if_neg (by omega), if_neg (by omega), if_neg (by omega), if_neg (by omega), if_neg (by omega), if_neg (by omega), if_neg (by omega), if_neg (by omega), if_neg (by omega), if_neg (by omega), if_neg (by omega), if_neg (by omega)]
theorem zl_Ire {w : zk_W} {s : State} {P : Nat → Option Nat} {F : Nat → va_E} {H : Heap} {locs : List Loc} (hW : zh_W w) (h : zl_I w s P F H locs) : zl_I w s (zl_Pm P) F H locs := ⟨zl_retype hW.1 h.1, h.2.1, fun t a hta => by rw [zl_Pme (h.2.2 t a hta), zl_mtu (Nat.le_trans (by decide) (hW.2.2.2.2.2.2.1 t a hta))]⟩
/-- where it all stands -/
def zl_S (xa ma tn rd im rw_ ri kp : Nat) (P : Nat → Option Nat) (G : Nat → Nat → Int) : Prop := (G xa 0 = (tn : Int) ∧ P tn = some 10) ∧ (G tn 0 = (rd : Int) ∧ P rd = some 42) ∧ (G xa 1 = (im : Int) ∧ P im = some 55) ∧ (G ma 3 = (rw_ : Int) ∧ P rw_ = some 59) ∧ (G ma 4 = (ri : Int) ∧ P ri = some 60) ∧ (G ma 5 = (kp : Int) ∧ P kp = some 61)
theorem zl_Sfr {xa ma tn rd im rw_ ri kp : Nat} {eff : List (Nat × Nat × Nat)} {ps : List Int} {P P' : Nat → Option Nat} {G G' : Nat → Nat → Int} (h : zl_S xa ma tn rd im rw_ ri kp P G) (h12 : P xa = some 12) (h13 : P ma = some 13) (hx : ∀ b t, P b = some t → P' b = some t) (hfr : zp_fr eff ps P G G') (he : (zp_nfb eff 12 0 && (zp_nfb eff 10 0 && (zp_nfb eff 12 1 && (zp_nfb eff 13 3 && (zp_nfb eff 13 4 && zp_nfb eff 13 5))))) = true) : zl_S xa ma tn rd im rw_ ri kp P' G' := by
  simp only [Bool.and_eq_true] at he
  obtain ⟨e0, e1, e2, e3, e4, e5⟩ := he
  exact ⟨⟨(zp_nf hfr h12 e0).trans h.1.1, hx _ _ h.1.2⟩, ⟨(zp_nf hfr h.1.2 e1).trans h.2.1.1, hx _ _ h.2.1.2⟩, ⟨(zp_nf hfr h12 e2).trans h.2.2.1.1, hx _ _ h.2.2.1.2⟩, ⟨(zp_nf hfr h13 e3).trans h.2.2.2.1.1, hx _ _ h.2.2.2.1.2⟩, ⟨(zp_nf hfr h13 e4).trans h.2.2.2.2.1.1, hx _ _ h.2.2.2.2.1.2⟩, ⟨(zp_nf hfr h13 e5).trans h.2.2.2.2.2.1, hx _ _ h.2.2.2.2.2.2⟩⟩
/-- the roads -/
def zl_v (rd rw_ : Nat) (G : Nat → Nat → Int) : Prop := (∀ j : Nat, j < 64 → G rd (2000 + j) = G rw_ (2000 + (j + 89))) ∧ zg_rs (fun j => G rd (2000 + j))
theorem zg_rsc {R R' : Nat → Int} (h : ∀ j, j < 64 → R' j = R j) (hr : zg_rs R) : zg_rs R' := by
  obtain ⟨h1, h2, h3⟩ := hr
  refine ⟨fun r hr => by rw [h r hr]; exact h1 r hr, fun a b ha hb => ?_, fun a ha => ?_⟩
  · rw [h _ (by omega), h _ (by omega)]
    exact h2 a b ha hb
  · rw [h _ (by omega)]
    exact h3 a ha
theorem zl_vfr {xa ma tn rd im rw_ ri kp : Nat} {eff : List (Nat × Nat × Nat)} {ps : List Int} {P : Nat → Option Nat} {G G' : Nat → Nat → Int} (hS : zl_S xa ma tn rd im rw_ ri kp P G) (h : zl_v rd rw_ G) (hfr : zp_fr eff ps P G G') (he : (zp_ncb eff 42 && (List.range 64).all (fun j => zp_neb eff 59 (j + 89))) = true) : zl_v rd rw_ G' := by
  obtain ⟨e0, e1⟩ := (Bool.and_eq_true _ _).mp he
  obtain ⟨h1, h2⟩ := h
  have f42 : ∀ j, G' rd (2000 + j) = G rd (2000 + j) := fun j => zp_nc hfr hS.2.1.2 e0 _
  refine ⟨fun j hj => ?_, zg_rsc (fun j _ => f42 j) h2⟩
  rw [f42, zp_ne hfr hS.2.2.2.1.2 (List.all_eq_true.mp e1 j (List.mem_range.mpr hj))]
  exact h1 j hj
/-- an image's roads -/
def zl_ir (z ri q : Nat) (P : Nat → Option Nat) (G : Nat → Nat → Int) : Prop := ∃ rz : Nat, G z 0 = (rz : Int) ∧ P rz = some 103 ∧ (∀ j : Nat, j < 64 → G rz (2000 + j) = G ri (2000 + (5580 * q + (j + 89)))) ∧ zg_rs (fun j => G rz (2000 + j))
def zl_i (im ri kp : Nat) (P : Nat → Option Nat) (G : Nat → Nat → Int) : Prop := (∀ q : Nat, q < 2 → (0 ≤ G im (2000 + q) ↔ ¬ G kp (2000 + q) = 0)) ∧ (∀ q z : Nat, q < 2 → G im (2000 + q) = (z : Int) → P z = some 93 ∧ zl_ir z ri q P G) ∧ ∀ z0 z1 r : Nat, G im (2000 + 0) = (z0 : Int) → G im (2000 + 1) = (z1 : Int) → G z0 0 = (r : Int) → G z1 0 = (r : Int) → False
theorem zl_ifr {xa ma tn rd im rw_ ri kp : Nat} {eff : List (Nat × Nat × Nat)} {ps : List Int} {P P' : Nat → Option Nat} {G G' : Nat → Nat → Int} (hS : zl_S xa ma tn rd im rw_ ri kp P G) (h : zl_i im ri kp P G) (hx : ∀ b t, P b = some t → P' b = some t) (hfr : zp_fr eff ps P G G') (he : (zp_ncb eff 55 && (zp_ncb eff 61 && (zp_ncb eff 60 && (zp_nfb eff 93 0 && zp_ncb eff 103)))) = true) : zl_i im ri kp P' G' := by
  simp only [Bool.and_eq_true] at he
  obtain ⟨e0, e1, e2, e3, e4⟩ := he
  obtain ⟨h1, h2, h3⟩ := h
  have f55 := fun k => zp_nc hfr hS.2.2.1.2 e0 k
  have f61 := fun k => zp_nc hfr hS.2.2.2.2.2.2 e1 k
  have f60 := fun k => zp_nc hfr hS.2.2.2.2.1.2 e2 k
  refine ⟨fun q hq => ?_, fun q z hq hz => ?_, fun z0 z1 r hz0 hz1 hr0 hr1 => ?_⟩
  · rw [f55, f61]
    exact h1 q hq
  · rw [f55] at hz
    obtain ⟨g1, rz, g2, g3, g4, g5⟩ := h2 q z hq hz
    exact ⟨hx _ _ g1, rz, (zp_nf hfr g1 e3).trans g2, hx _ _ g3, fun j hj => (zp_nc hfr g3 e4 _).trans ((g4 j hj).trans (f60 _).symm), zg_rsc (fun j _ => zp_nc hfr g3 e4 _) g5⟩
  · rw [f55] at hz0 hz1
    have q0 := (h2 0 z0 (by decide) hz0).1
    have q1 := (h2 1 z1 (by decide) hz1).1
    rw [zp_nf hfr q0 e3] at hr0
    rw [zp_nf hfr q1 e3] at hr1
    exact h3 z0 z1 r hz0 hz1 hr0 hr1
def zl_R (xa ma : Nat) (P : Nat → Option Nat) (G : Nat → Nat → Int) : Prop := (∀ b t, P b = some t → zl_mt t = t) ∧ ∃ tn rd im rw_ ri kp : Nat, zl_S xa ma tn rd im rw_ ri kp P G ∧ zl_v rd rw_ G ∧ zl_i im ri kp P G
theorem zl_Rfr {xa ma : Nat} {eff : List (Nat × Nat × Nat)} {ps : List Int} {P P' : Nat → Option Nat} {G G' : Nat → Nat → Int} (hM : ∀ b t, P' b = some t → zl_mt t = t) (h : zl_R xa ma P G) (h12 : P xa = some 12) (h13 : P ma = some 13) (hx : ∀ b t, P b = some t → P' b = some t) (hfr : zp_fr eff ps P G G') (he : ((zp_nfb eff 12 0 && (zp_nfb eff 10 0 && (zp_nfb eff 12 1 && (zp_nfb eff 13 3 && (zp_nfb eff 13 4 && zp_nfb eff 13 5))))) && ((zp_ncb eff 42 && (List.range 64).all (fun j => zp_neb eff 59 (j + 89))) && (zp_ncb eff 55 && (zp_ncb eff 61 && (zp_ncb eff 60 && (zp_nfb eff 93 0 && zp_ncb eff 103)))))) = true) : zl_R xa ma P' G' := by
  obtain ⟨b1, he⟩ := (Bool.and_eq_true _ _).mp he
  obtain ⟨b2, b3⟩ := (Bool.and_eq_true _ _).mp he
  obtain ⟨-, tn, rd, im, rw_, ri, kp, hS, hv, hi⟩ := h
  exact ⟨hM, tn, rd, im, rw_, ri, kp, zl_Sfr hS h12 h13 hx hfr b1, zl_vfr hS hv hfr b2, zl_ifr hS hi hx hfr b3⟩
theorem zI_nul3 {w : zk_W} {s : State} {P : Nat → Option Nat} {F : Nat → va_E} {H : Heap} (hw : w.1 = zt_types) (h : zk_wt w s P F H) {im : Nat} (hp : P im = some 96) : ∀ j, j < 2 → zp_n F im (2000 + j) < 0 := by
  have hT : w.1[96]? = some ((3, 2, 2, [(2, 93, (-1), (-1))]) : zk_T) := by rw [hw]; rfl
  obtain ⟨cA, n, f, o1, o2, o3, o4, o4', o5, o6, o7⟩ := zk_qarr h hp hT rfl
  have o2 : 2 ≤ n := o2
  intro j hj
  obtain ⟨z, z1, z2⟩ := o5 j (by omega)
  rw [zI_num (v := va_rf (f j)) (by rw [o1]; exact zI_rdq (by omega)), z2]
  have z1 : zk_ok P ((2, 93, (-1), (-1)) : zk_F) z := z1
  have e : zp_num (zk_mk 2 z) = z := zp_num_mk z1 (Nat.le_refl 2)
  show zp_num (zk_mk 2 z) < 0
  rw [e]
  exact z1.2.2.1 (by decide)
/-- the row, made new: its roads are 0 -/
theorem zl_row0 {w : zk_W} {s : State} {P : Nat → Option Nat} {F : Nat → va_E} {H : Heap} (hw : w.1 = zt_types) (h : zk_wt w s P F H) {a : Nat} (hp : P a = some 100) : ∀ j, j < 64 → zp_n F a (2000 + (j + 89)) = 0 := by
  intro j hj
  have hT : zt_types[100]? = some (zt_types.getD 100 (0, 0, 0, [])) := rfl
  obtain ⟨cA, n, f, o1, o2, o3, o4⟩ := zp_arr_n (zp_wt.of (xs := []) h) hw hp hT (by decide +kernel)
  have o2 : 5580 ≤ n := o2
  obtain ⟨z, z1, z2⟩ := o3 (j + 89) (by omega)
  rw [o4 (j + 89) (by omega)]
  have e0 : ∀ j, j < 64 → (zk_fj (zt_types.getD 100 (0, 0, 0, [])) (j + 89)).1 = 0 ∧ (zk_fj (zt_types.getD 100 (0, 0, 0, [])) (j + 89)).2.2.1 = 0 ∧ (zk_fj (zt_types.getD 100 (0, 0, 0, [])) (j + 89)).2.2.2 = 0 := by decide +kernel
  rw [zr_eq (e0 j hj)] at z1 z2
  have z2 : Value.int (f (j + 89)) = .int (Int32.ofInt z) := z2
  rw [Value.int.inj z2, zk_i32 z1.rg]
  exact Int.le_antisymm z1.2.1 z1.1
