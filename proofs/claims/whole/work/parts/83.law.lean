/-! the law: its tables, its links, its end -/
set_option maxRecDepth 20000 in
theorem lkok_RL : x_lkok R_law ([], [], [], []) := x_lkok_of (by decide +kernel)
def M_law : xM := (R_law, x, code, 4, ret, 6, ([], [], [], []), [(18, .iload_n 3, 1), (19, .aload_n 0, 1), (20, .arraylength, 1), (21, .bipush 6, 2), (23, .isub, 1), (24, .if_icmp .gt 1031, 3), (27, .aload_n 0, 1), (28, .iload_n 3, 1), (29, .iaload, 1), (30, .bipush 31, 2), (32, .iand, 1), (33, .tableswitch 1016 0 28 #[131, 194, 227, 286, 319, 342, 375, 408, 431, 464, 477, 510, 524, 548, 571, 584, 607, 620, 643, 666, 689, 712, 755, 788, 801, 814, 857, 900, 963], 131), (1049, .iinc 3 6, 3), (1052, .goto (-1034), 3), (1055, .iconst 1, 1), (1056, .ireturn, 1)])
set_option maxRecDepth 20000 in
theorem ok_law : x_ok M_law := x_ok_of lkok_RL (by decide +kernel)
def M_law0 : xM := (R_law, x, code, 4, ret, 6, ([], [], [], []), [(164, .aload_n 1, 1), (165, .aload_n 0, 1), (166, .iload_n 3, 1), (167, .iconst 1, 1), (168, .iadd, 1), (169, .iaload, 1), (170, .aload_n 0, 1), (171, .iload_n 3, 1), (172, .iconst 2, 1), (173, .iadd, 1), (174, .iaload, 1), (175, .aload_n 0, 1), (176, .iload_n 3, 1), (177, .iconst 3, 1), (178, .iadd, 1), (179, .iaload, 1), (180, .aload_n 0, 1), (181, .iload_n 3, 1), (182, .iconst 4, 1), (183, .iadd, 1), (184, .iaload, 1), (185, .aload_n 0, 1), (186, .iload_n 3, 1), (187, .iconst 5, 1), (188, .iadd, 1), (189, .iaload, 1), (190, .invokevirtual 13, 3), (193, .aload_n 2, 1), (194, .aload_n 0, 1), (195, .iload_n 3, 1), (196, .iconst 1, 1), (197, .iadd, 1), (198, .iaload, 1), (199, .aload_n 0, 1), (200, .iload_n 3, 1), (201, .iconst 2, 1), (202, .iadd, 1), (203, .iaload, 1), (204, .aload_n 0, 1), (205, .iload_n 3, 1), (206, .iconst 3, 1), (207, .iadd, 1), (208, .iaload, 1), (209, .aload_n 0, 1), (210, .iload_n 3, 1), (211, .iconst 4, 1), (212, .iadd, 1), (213, .iaload, 1), (214, .aload_n 0, 1), (215, .iload_n 3, 1), (216, .iconst 5, 1), (217, .iadd, 1), (218, .iaload, 1), (219, .invokevirtual 17, 3), (222, .if_icmp .eq 827, 3), (225, .iconst 0, 1), (226, .ireturn, 1)])
set_option maxRecDepth 20000 in
theorem ok_law0 : x_ok M_law0 := x_ok_of lkok_RL (by decide +kernel)
def M_law1 : xM := (R_law, x, code, 4, ret, 6, ([], [], [], []), [(227, .aload_n 1, 1), (228, .aload_n 0, 1), (229, .iload_n 3, 1), (230, .iconst 1, 1), (231, .iadd, 1), (232, .iaload, 1), (233, .aload_n 0, 1), (234, .iload_n 3, 1), (235, .iconst 2, 1), (236, .iadd, 1), (237, .iaload, 1), (238, .invokevirtual 18, 3), (241, .aload_n 2, 1), (242, .aload_n 0, 1), (243, .iload_n 3, 1), (244, .iconst 1, 1), (245, .iadd, 1), (246, .iaload, 1), (247, .aload_n 0, 1), (248, .iload_n 3, 1), (249, .iconst 2, 1), (250, .iadd, 1), (251, .iaload, 1), (252, .invokevirtual 22, 3), (255, .if_icmp .eq 794, 3), (258, .iconst 0, 1), (259, .ireturn, 1)])
set_option maxRecDepth 20000 in
theorem ok_law1 : x_ok M_law1 := x_ok_of lkok_RL (by decide +kernel)
def M_law2 : xM := (R_law, x, code, 4, ret, 6, ([], [], [], []), [(260, .aload_n 1, 1), (261, .aload_n 0, 1), (262, .iload_n 3, 1), (263, .iconst 1, 1), (264, .iadd, 1), (265, .iaload, 1), (266, .aload_n 0, 1), (267, .iload_n 3, 1), (268, .iconst 2, 1), (269, .iadd, 1), (270, .iaload, 1), (271, .aload_n 0, 1), (272, .iload_n 3, 1), (273, .iconst 3, 1), (274, .iadd, 1), (275, .iaload, 1), (276, .ifCond .eq 7, 3), (279, .iconst 1, 1), (280, .goto 4, 3), (283, .iconst 0, 1), (284, .invokevirtual 23, 3), (287, .aload_n 2, 1), (288, .aload_n 0, 1), (289, .iload_n 3, 1), (290, .iconst 1, 1), (291, .iadd, 1), (292, .iaload, 1), (293, .aload_n 0, 1), (294, .iload_n 3, 1), (295, .iconst 2, 1), (296, .iadd, 1), (297, .iaload, 1), (298, .aload_n 0, 1), (299, .iload_n 3, 1), (300, .iconst 3, 1), (301, .iadd, 1), (302, .iaload, 1), (303, .ifCond .eq 7, 3), (306, .iconst 1, 1), (307, .goto 4, 3), (310, .iconst 0, 1), (311, .invokevirtual 27, 3), (314, .if_icmp .eq 735, 3), (317, .iconst 0, 1), (318, .ireturn, 1)])
set_option maxRecDepth 20000 in
theorem ok_law2 : x_ok M_law2 := x_ok_of lkok_RL (by decide +kernel)
def M_law3 : xM := (R_law, x, code, 4, ret, 6, ([], [], [], []), [(319, .aload_n 1, 1), (320, .aload_n 0, 1), (321, .iload_n 3, 1), (322, .iconst 1, 1), (323, .iadd, 1), (324, .iaload, 1), (325, .aload_n 0, 1), (326, .iload_n 3, 1), (327, .iconst 2, 1), (328, .iadd, 1), (329, .iaload, 1), (330, .invokevirtual 28, 3), (333, .aload_n 2, 1), (334, .aload_n 0, 1), (335, .iload_n 3, 1), (336, .iconst 1, 1), (337, .iadd, 1), (338, .iaload, 1), (339, .aload_n 0, 1), (340, .iload_n 3, 1), (341, .iconst 2, 1), (342, .iadd, 1), (343, .iaload, 1), (344, .invokevirtual 31, 3), (347, .if_icmp .eq 702, 3), (350, .iconst 0, 1), (351, .ireturn, 1)])
set_option maxRecDepth 20000 in
theorem ok_law3 : x_ok M_law3 := x_ok_of lkok_RL (by decide +kernel)
def M_law4 : xM := (R_law, x, code, 4, ret, 6, ([], [], [], []), [(352, .aload_n 1, 1), (353, .aload_n 0, 1), (354, .iload_n 3, 1), (355, .iconst 1, 1), (356, .iadd, 1), (357, .iaload, 1), (358, .invokevirtual 32, 3), (361, .aload_n 2, 1), (362, .aload_n 0, 1), (363, .iload_n 3, 1), (364, .iconst 1, 1), (365, .iadd, 1), (366, .iaload, 1), (367, .invokevirtual 36, 3), (370, .if_icmp .eq 679, 3), (373, .iconst 0, 1), (374, .ireturn, 1)])
set_option maxRecDepth 20000 in
theorem ok_law4 : x_ok M_law4 := x_ok_of lkok_RL (by decide +kernel)
def M_law5 : xM := (R_law, x, code, 4, ret, 6, ([], [], [], []), [(375, .aload_n 1, 1), (376, .aload_n 0, 1), (377, .iload_n 3, 1), (378, .iconst 1, 1), (379, .iadd, 1), (380, .iaload, 1), (381, .aload_n 0, 1), (382, .iload_n 3, 1), (383, .iconst 2, 1), (384, .iadd, 1), (385, .iaload, 1), (386, .invokevirtual 37, 3), (389, .aload_n 2, 1), (390, .aload_n 0, 1), (391, .iload_n 3, 1), (392, .iconst 1, 1), (393, .iadd, 1), (394, .iaload, 1), (395, .aload_n 0, 1), (396, .iload_n 3, 1), (397, .iconst 2, 1), (398, .iadd, 1), (399, .iaload, 1), (400, .invokevirtual 40, 3), (403, .if_icmp .eq 646, 3), (406, .iconst 0, 1), (407, .ireturn, 1)])
set_option maxRecDepth 20000 in
theorem ok_law5 : x_ok M_law5 := x_ok_of lkok_RL (by decide +kernel)
def M_law6 : xM := (R_law, x, code, 4, ret, 6, ([], [], [], []), [(408, .aload_n 1, 1), (409, .aload_n 0, 1), (410, .iload_n 3, 1), (411, .iconst 1, 1), (412, .iadd, 1), (413, .iaload, 1), (414, .aload_n 0, 1), (415, .iload_n 3, 1), (416, .iconst 2, 1), (417, .iadd, 1), (418, .iaload, 1), (419, .invokevirtual 41, 3), (422, .aload_n 2, 1), (423, .aload_n 0, 1), (424, .iload_n 3, 1), (425, .iconst 1, 1), (426, .iadd, 1), (427, .iaload, 1), (428, .aload_n 0, 1), (429, .iload_n 3, 1), (430, .iconst 2, 1), (431, .iadd, 1), (432, .iaload, 1), (433, .invokevirtual 44, 3), (436, .if_icmp .eq 613, 3), (439, .iconst 0, 1), (440, .ireturn, 1)])
set_option maxRecDepth 20000 in
theorem ok_law6 : x_ok M_law6 := x_ok_of lkok_RL (by decide +kernel)
def M_law7 : xM := (R_law, x, code, 4, ret, 6, ([], [], [], []), [(441, .aload_n 1, 1), (442, .aload_n 0, 1), (443, .iload_n 3, 1), (444, .iconst 1, 1), (445, .iadd, 1), (446, .iaload, 1), (447, .invokevirtual 45, 3), (450, .aload_n 2, 1), (451, .aload_n 0, 1), (452, .iload_n 3, 1), (453, .iconst 1, 1), (454, .iadd, 1), (455, .iaload, 1), (456, .invokevirtual 48, 3), (459, .if_icmp .eq 590, 3), (462, .iconst 0, 1), (463, .ireturn, 1)])
set_option maxRecDepth 20000 in
theorem ok_law7 : x_ok M_law7 := x_ok_of lkok_RL (by decide +kernel)
def M_law8 : xM := (R_law, x, code, 4, ret, 6, ([], [], [], []), [(464, .aload_n 1, 1), (465, .aload_n 0, 1), (466, .iload_n 3, 1), (467, .iconst 1, 1), (468, .iadd, 1), (469, .iaload, 1), (470, .aload_n 0, 1), (471, .iload_n 3, 1), (472, .iconst 2, 1), (473, .iadd, 1), (474, .iaload, 1), (475, .invokevirtual 49, 3), (478, .aload_n 2, 1), (479, .aload_n 0, 1), (480, .iload_n 3, 1), (481, .iconst 1, 1), (482, .iadd, 1), (483, .iaload, 1), (484, .aload_n 0, 1), (485, .iload_n 3, 1), (486, .iconst 2, 1), (487, .iadd, 1), (488, .iaload, 1), (489, .invokevirtual 52, 3), (492, .if_icmp .eq 557, 3), (495, .iconst 0, 1), (496, .ireturn, 1)])
set_option maxRecDepth 20000 in
theorem ok_law8 : x_ok M_law8 := x_ok_of lkok_RL (by decide +kernel)
def M_law9 : xM := (R_law, x, code, 4, ret, 6, ([], [], [], []), [(497, .aload_n 1, 1), (498, .invokevirtual 53, 3), (501, .aload_n 2, 1), (502, .invokevirtual 57, 3), (505, .if_icmp .eq 544, 3), (508, .iconst 0, 1), (509, .ireturn, 1)])
set_option maxRecDepth 20000 in
theorem ok_law9 : x_ok M_law9 := x_ok_of lkok_RL (by decide +kernel)
def M_law10 : xM := (R_law, x, code, 4, ret, 6, ([], [], [], []), [(510, .aload_n 1, 1), (511, .aload_n 0, 1), (512, .iload_n 3, 1), (513, .iconst 1, 1), (514, .iadd, 1), (515, .iaload, 1), (516, .aload_n 0, 1), (517, .iload_n 3, 1), (518, .iconst 2, 1), (519, .iadd, 1), (520, .iaload, 1), (521, .invokevirtual 58, 3), (524, .aload_n 2, 1), (525, .aload_n 0, 1), (526, .iload_n 3, 1), (527, .iconst 1, 1), (528, .iadd, 1), (529, .iaload, 1), (530, .aload_n 0, 1), (531, .iload_n 3, 1), (532, .iconst 2, 1), (533, .iadd, 1), (534, .iaload, 1), (535, .invokevirtual 61, 3), (538, .if_icmp .eq 511, 3), (541, .iconst 0, 1), (542, .ireturn, 1)])
set_option maxRecDepth 20000 in
theorem ok_law10 : x_ok M_law10 := x_ok_of lkok_RL (by decide +kernel)
def M_law11 : xM := (R_law, x, code, 4, ret, 6, ([], [], [], []), [(543, .aload_n 1, 1), (544, .invokevirtual 62, 3), (547, .aload_n 2, 1), (548, .invokevirtual 66, 3), (551, .lcmp, 1), (552, .ifCond .eq 497, 3), (555, .iconst 0, 1), (556, .ireturn, 1)])
set_option maxRecDepth 20000 in
theorem ok_law11 : x_ok M_law11 := x_ok_of lkok_RL (by decide +kernel)
def M_law12 : xM := (R_law, x, code, 4, ret, 6, ([], [], [], []), [(557, .aload_n 1, 1), (558, .aload_n 0, 1), (559, .iload_n 3, 1), (560, .iconst 1, 1), (561, .iadd, 1), (562, .iaload, 1), (563, .invokevirtual 67, 3), (566, .aload_n 2, 1), (567, .aload_n 0, 1), (568, .iload_n 3, 1), (569, .iconst 1, 1), (570, .iadd, 1), (571, .iaload, 1), (572, .invokevirtual 71, 3), (575, .lcmp, 1), (576, .ifCond .eq 473, 3), (579, .iconst 0, 1), (580, .ireturn, 1)])
set_option maxRecDepth 20000 in
theorem ok_law12 : x_ok M_law12 := x_ok_of lkok_RL (by decide +kernel)
def M_law13 : xM := (R_law, x, code, 4, ret, 6, ([], [], [], []), [(581, .aload_n 1, 1), (582, .aload_n 0, 1), (583, .iload_n 3, 1), (584, .iconst 1, 1), (585, .iadd, 1), (586, .iaload, 1), (587, .invokevirtual 72, 3), (590, .aload_n 2, 1), (591, .aload_n 0, 1), (592, .iload_n 3, 1), (593, .iconst 1, 1), (594, .iadd, 1), (595, .iaload, 1), (596, .invokevirtual 75, 3), (599, .if_icmp .eq 450, 3), (602, .iconst 0, 1), (603, .ireturn, 1)])
set_option maxRecDepth 20000 in
theorem ok_law13 : x_ok M_law13 := x_ok_of lkok_RL (by decide +kernel)
def M_law14 : xM := (R_law, x, code, 4, ret, 6, ([], [], [], []), [(604, .aload_n 1, 1), (605, .invokevirtual 76, 3), (608, .aload_n 2, 1), (609, .invokevirtual 79, 3), (612, .if_icmp .eq 437, 3), (615, .iconst 0, 1), (616, .ireturn, 1)])
set_option maxRecDepth 20000 in
theorem ok_law14 : x_ok M_law14 := x_ok_of lkok_RL (by decide +kernel)
def M_law15 : xM := (R_law, x, code, 4, ret, 6, ([], [], [], []), [(617, .aload_n 1, 1), (618, .aload_n 0, 1), (619, .iload_n 3, 1), (620, .iconst 1, 1), (621, .iadd, 1), (622, .iaload, 1), (623, .invokevirtual 80, 3), (626, .aload_n 2, 1), (627, .aload_n 0, 1), (628, .iload_n 3, 1), (629, .iconst 1, 1), (630, .iadd, 1), (631, .iaload, 1), (632, .invokevirtual 83, 3), (635, .if_icmp .eq 414, 3), (638, .iconst 0, 1), (639, .ireturn, 1)])
set_option maxRecDepth 20000 in
theorem ok_law15 : x_ok M_law15 := x_ok_of lkok_RL (by decide +kernel)
def M_law16 : xM := (R_law, x, code, 4, ret, 6, ([], [], [], []), [(640, .aload_n 1, 1), (641, .invokevirtual 84, 3), (644, .aload_n 2, 1), (645, .invokevirtual 87, 3), (648, .if_icmp .eq 401, 3), (651, .iconst 0, 1), (652, .ireturn, 1)])
set_option maxRecDepth 20000 in
theorem ok_law16 : x_ok M_law16 := x_ok_of lkok_RL (by decide +kernel)
def M_law17 : xM := (R_law, x, code, 4, ret, 6, ([], [], [], []), [(653, .aload_n 1, 1), (654, .aload_n 0, 1), (655, .iload_n 3, 1), (656, .iconst 1, 1), (657, .iadd, 1), (658, .iaload, 1), (659, .invokevirtual 88, 3), (662, .aload_n 2, 1), (663, .aload_n 0, 1), (664, .iload_n 3, 1), (665, .iconst 1, 1), (666, .iadd, 1), (667, .iaload, 1), (668, .invokevirtual 91, 3), (671, .if_icmp .eq 378, 3), (674, .iconst 0, 1), (675, .ireturn, 1)])
set_option maxRecDepth 20000 in
theorem ok_law17 : x_ok M_law17 := x_ok_of lkok_RL (by decide +kernel)
def M_law18 : xM := (R_law, x, code, 4, ret, 6, ([], [], [], []), [(676, .aload_n 1, 1), (677, .aload_n 0, 1), (678, .iload_n 3, 1), (679, .iconst 1, 1), (680, .iadd, 1), (681, .iaload, 1), (682, .invokevirtual 92, 3), (685, .aload_n 2, 1), (686, .aload_n 0, 1), (687, .iload_n 3, 1), (688, .iconst 1, 1), (689, .iadd, 1), (690, .iaload, 1), (691, .invokevirtual 95, 3), (694, .if_icmp .eq 355, 3), (697, .iconst 0, 1), (698, .ireturn, 1)])
set_option maxRecDepth 20000 in
theorem ok_law18 : x_ok M_law18 := x_ok_of lkok_RL (by decide +kernel)
def M_law19 : xM := (R_law, x, code, 4, ret, 6, ([], [], [], []), [(699, .aload_n 1, 1), (700, .aload_n 0, 1), (701, .iload_n 3, 1), (702, .iconst 1, 1), (703, .iadd, 1), (704, .iaload, 1), (705, .invokevirtual 96, 3), (708, .aload_n 2, 1), (709, .aload_n 0, 1), (710, .iload_n 3, 1), (711, .iconst 1, 1), (712, .iadd, 1), (713, .iaload, 1), (714, .invokevirtual 99, 3), (717, .if_icmp .eq 332, 3), (720, .iconst 0, 1), (721, .ireturn, 1)])
set_option maxRecDepth 20000 in
theorem ok_law19 : x_ok M_law19 := x_ok_of lkok_RL (by decide +kernel)
def M_law20 : xM := (R_law, x, code, 4, ret, 6, ([], [], [], []), [(722, .aload_n 1, 1), (723, .aload_n 0, 1), (724, .iload_n 3, 1), (725, .iconst 1, 1), (726, .iadd, 1), (727, .iaload, 1), (728, .invokevirtual 100, 3), (731, .aload_n 2, 1), (732, .aload_n 0, 1), (733, .iload_n 3, 1), (734, .iconst 1, 1), (735, .iadd, 1), (736, .iaload, 1), (737, .invokevirtual 103, 3), (740, .if_icmp .eq 309, 3), (743, .iconst 0, 1), (744, .ireturn, 1)])
set_option maxRecDepth 20000 in
theorem ok_law20 : x_ok M_law20 := x_ok_of lkok_RL (by decide +kernel)
def M_law21 : xM := (R_law, x, code, 4, ret, 6, ([], [], [], []), [(745, .aload_n 1, 1), (746, .aload_n 0, 1), (747, .iload_n 3, 1), (748, .iconst 1, 1), (749, .iadd, 1), (750, .iaload, 1), (751, .aload_n 0, 1), (752, .iload_n 3, 1), (753, .iconst 2, 1), (754, .iadd, 1), (755, .iaload, 1), (756, .aload_n 0, 1), (757, .iload_n 3, 1), (758, .iconst 3, 1), (759, .iadd, 1), (760, .iaload, 1), (761, .invokevirtual 104, 3), (764, .aload_n 2, 1), (765, .aload_n 0, 1), (766, .iload_n 3, 1), (767, .iconst 1, 1), (768, .iadd, 1), (769, .iaload, 1), (770, .aload_n 0, 1), (771, .iload_n 3, 1), (772, .iconst 2, 1), (773, .iadd, 1), (774, .iaload, 1), (775, .aload_n 0, 1), (776, .iload_n 3, 1), (777, .iconst 3, 1), (778, .iadd, 1), (779, .iaload, 1), (780, .invokevirtual 108, 3), (783, .if_icmp .eq 266, 3), (786, .iconst 0, 1), (787, .ireturn, 1)])
set_option maxRecDepth 20000 in
theorem ok_law21 : x_ok M_law21 := x_ok_of lkok_RL (by decide +kernel)
def M_law22 : xM := (R_law, x, code, 4, ret, 6, ([], [], [], []), [(788, .aload_n 1, 1), (789, .aload_n 0, 1), (790, .iload_n 3, 1), (791, .iconst 1, 1), (792, .iadd, 1), (793, .iaload, 1), (794, .aload_n 0, 1), (795, .iload_n 3, 1), (796, .iconst 2, 1), (797, .iadd, 1), (798, .iaload, 1), (799, .invokevirtual 109, 3), (802, .aload_n 2, 1), (803, .aload_n 0, 1), (804, .iload_n 3, 1), (805, .iconst 1, 1), (806, .iadd, 1), (807, .iaload, 1), (808, .aload_n 0, 1), (809, .iload_n 3, 1), (810, .iconst 2, 1), (811, .iadd, 1), (812, .iaload, 1), (813, .invokevirtual 112, 3), (816, .if_icmp .eq 233, 3), (819, .iconst 0, 1), (820, .ireturn, 1)])
set_option maxRecDepth 20000 in
theorem ok_law22 : x_ok M_law22 := x_ok_of lkok_RL (by decide +kernel)
def M_law23 : xM := (R_law, x, code, 4, ret, 6, ([], [], [], []), [(821, .aload_n 1, 1), (822, .invokevirtual 113, 3), (825, .aload_n 2, 1), (826, .invokevirtual 116, 3), (829, .if_icmp .eq 220, 3), (832, .iconst 0, 1), (833, .ireturn, 1)])
set_option maxRecDepth 20000 in
theorem ok_law23 : x_ok M_law23 := x_ok_of lkok_RL (by decide +kernel)
def M_law24 : xM := (R_law, x, code, 4, ret, 6, ([], [], [], []), [(834, .aload_n 1, 1), (835, .invokevirtual 117, 3), (838, .aload_n 2, 1), (839, .invokevirtual 120, 3), (842, .if_icmp .eq 207, 3), (845, .iconst 0, 1), (846, .ireturn, 1)])
set_option maxRecDepth 20000 in
theorem ok_law24 : x_ok M_law24 := x_ok_of lkok_RL (by decide +kernel)
def M_law25 : xM := (R_law, x, code, 4, ret, 6, ([], [], [], []), [(847, .aload_n 1, 1), (848, .aload_n 0, 1), (849, .iload_n 3, 1), (850, .iconst 1, 1), (851, .iadd, 1), (852, .iaload, 1), (853, .aload_n 0, 1), (854, .iload_n 3, 1), (855, .iconst 2, 1), (856, .iadd, 1), (857, .iaload, 1), (858, .aload_n 0, 1), (859, .iload_n 3, 1), (860, .iconst 3, 1), (861, .iadd, 1), (862, .iaload, 1), (863, .invokevirtual 121, 3), (866, .aload_n 2, 1), (867, .aload_n 0, 1), (868, .iload_n 3, 1), (869, .iconst 1, 1), (870, .iadd, 1), (871, .iaload, 1), (872, .aload_n 0, 1), (873, .iload_n 3, 1), (874, .iconst 2, 1), (875, .iadd, 1), (876, .iaload, 1), (877, .aload_n 0, 1), (878, .iload_n 3, 1), (879, .iconst 3, 1), (880, .iadd, 1), (881, .iaload, 1), (882, .invokevirtual 124, 3), (885, .if_icmp .eq 164, 3), (888, .iconst 0, 1), (889, .ireturn, 1)])
set_option maxRecDepth 20000 in
theorem ok_law25 : x_ok M_law25 := x_ok_of lkok_RL (by decide +kernel)
def M_law26 : xM := (R_law, x, code, 4, ret, 6, ([], [], [], []), [(890, .aload_n 1, 1), (891, .aload_n 0, 1), (892, .iload_n 3, 1), (893, .iconst 1, 1), (894, .iadd, 1), (895, .iaload, 1), (896, .aload_n 0, 1), (897, .iload_n 3, 1), (898, .iconst 2, 1), (899, .iadd, 1), (900, .iaload, 1), (901, .aload_n 0, 1), (902, .iload_n 3, 1), (903, .iconst 3, 1), (904, .iadd, 1), (905, .iaload, 1), (906, .invokevirtual 125, 3), (909, .aload_n 2, 1), (910, .aload_n 0, 1), (911, .iload_n 3, 1), (912, .iconst 1, 1), (913, .iadd, 1), (914, .iaload, 1), (915, .aload_n 0, 1), (916, .iload_n 3, 1), (917, .iconst 2, 1), (918, .iadd, 1), (919, .iaload, 1), (920, .aload_n 0, 1), (921, .iload_n 3, 1), (922, .iconst 3, 1), (923, .iadd, 1), (924, .iaload, 1), (925, .invokevirtual 128, 3), (928, .if_icmp .eq 121, 3), (931, .iconst 0, 1), (932, .ireturn, 1)])
set_option maxRecDepth 20000 in
theorem ok_law26 : x_ok M_law26 := x_ok_of lkok_RL (by decide +kernel)
def M_law27 : xM := (R_law, x, code, 4, ret, 6, ([], [], [], []), [(933, .aload_n 1, 1), (934, .aload_n 0, 1), (935, .iload_n 3, 1), (936, .iconst 1, 1), (937, .iadd, 1), (938, .iaload, 1), (939, .aload_n 0, 1), (940, .iload_n 3, 1), (941, .iconst 2, 1), (942, .iadd, 1), (943, .iaload, 1), (944, .aload_n 0, 1), (945, .iload_n 3, 1), (946, .iconst 3, 1), (947, .iadd, 1), (948, .iaload, 1), (949, .aload_n 0, 1), (950, .iload_n 3, 1), (951, .iconst 4, 1), (952, .iadd, 1), (953, .iaload, 1), (954, .aload_n 0, 1), (955, .iload_n 3, 1), (956, .iconst 5, 1), (957, .iadd, 1), (958, .iaload, 1), (959, .invokevirtual 129, 3), (962, .aload_n 2, 1), (963, .aload_n 0, 1), (964, .iload_n 3, 1), (965, .iconst 1, 1), (966, .iadd, 1), (967, .iaload, 1), (968, .aload_n 0, 1), (969, .iload_n 3, 1), (970, .iconst 2, 1), (971, .iadd, 1), (972, .iaload, 1), (973, .aload_n 0, 1), (974, .iload_n 3, 1), (975, .iconst 3, 1), (976, .iadd, 1), (977, .iaload, 1), (978, .aload_n 0, 1), (979, .iload_n 3, 1), (980, .iconst 4, 1), (981, .iadd, 1), (982, .iaload, 1), (983, .aload_n 0, 1), (984, .iload_n 3, 1), (985, .iconst 5, 1), (986, .iadd, 1), (987, .iaload, 1), (988, .invokevirtual 132, 3), (991, .if_icmp .eq 58, 3), (994, .iconst 0, 1), (995, .ireturn, 1)])
set_option maxRecDepth 20000 in
theorem ok_law27 : x_ok M_law27 := x_ok_of lkok_RL (by decide +kernel)
def M_law28 : xM := (R_law, x, code, 4, ret, 6, ([], [], [], []), [(996, .aload_n 1, 1), (997, .aload_n 0, 1), (998, .iload_n 3, 1), (999, .iconst 1, 1), (1000, .iadd, 1), (1001, .iaload, 1), (1002, .aload_n 0, 1), (1003, .iload_n 3, 1), (1004, .iconst 2, 1), (1005, .iadd, 1), (1006, .iaload, 1), (1007, .aload_n 0, 1), (1008, .iload_n 3, 1), (1009, .iconst 3, 1), (1010, .iadd, 1), (1011, .iaload, 1), (1012, .aload_n 0, 1), (1013, .iload_n 3, 1), (1014, .iconst 4, 1), (1015, .iadd, 1), (1016, .iaload, 1), (1017, .invokevirtual 133, 3), (1020, .aload_n 2, 1), (1021, .aload_n 0, 1), (1022, .iload_n 3, 1), (1023, .iconst 1, 1), (1024, .iadd, 1), (1025, .iaload, 1), (1026, .aload_n 0, 1), (1027, .iload_n 3, 1), (1028, .iconst 2, 1), (1029, .iadd, 1), (1030, .iaload, 1), (1031, .aload_n 0, 1), (1032, .iload_n 3, 1), (1033, .iconst 3, 1), (1034, .iadd, 1), (1035, .iaload, 1), (1036, .aload_n 0, 1), (1037, .iload_n 3, 1), (1038, .iconst 4, 1), (1039, .iadd, 1), (1040, .iaload, 1), (1041, .invokevirtual 137, 3), (1044, .if_icmp .eq 5, 3), (1047, .iconst 0, 1), (1048, .ireturn, 1)])
set_option maxRecDepth 20000 in
theorem ok_law28 : x_ok M_law28 := x_ok_of lkok_RL (by decide +kernel)
set_option maxRecDepth 20000 in
theorem ln_RL_13 : Cond.methodLink R_law 13 yX5_ship ∈ x_tbl := x_mem 296 (by decide +kernel) rfl
set_option maxRecDepth 20000 in
theorem ln_RL_17 : Cond.methodLink R_law 17 yX6_ship ∈ x_tbl := x_mem 784 (by decide +kernel) rfl
set_option maxRecDepth 20000 in
theorem ln_RL_18 : Cond.methodLink R_law 18 yX5_set ∈ x_tbl := x_mem 307 (by decide +kernel) rfl
set_option maxRecDepth 20000 in
theorem ln_RL_22 : Cond.methodLink R_law 22 yX6_set ∈ x_tbl := x_mem 796 (by decide +kernel) rfl
set_option maxRecDepth 20000 in
theorem ln_RL_23 : Cond.methodLink R_law 23 yX5_bar ∈ x_tbl := x_mem 318 (by decide +kernel) rfl
set_option maxRecDepth 20000 in
theorem ln_RL_27 : Cond.methodLink R_law 27 yX6_bar ∈ x_tbl := x_mem 800 (by decide +kernel) rfl
set_option maxRecDepth 20000 in
theorem ln_RL_28 : Cond.methodLink R_law 28 yX5_cap ∈ x_tbl := x_mem 322 (by decide +kernel) rfl
set_option maxRecDepth 20000 in
theorem ln_RL_31 : Cond.methodLink R_law 31 yX6_cap ∈ x_tbl := x_mem 804 (by decide +kernel) rfl
set_option maxRecDepth 20000 in
theorem ln_RL_32 : Cond.methodLink R_law 32 yX5_may ∈ x_tbl := x_mem 327 (by decide +kernel) rfl
set_option maxRecDepth 20000 in
theorem ln_RL_36 : Cond.methodLink R_law 36 yX6_may ∈ x_tbl := x_mem 809 (by decide +kernel) rfl
set_option maxRecDepth 20000 in
theorem ln_RL_37 : Cond.methodLink R_law 37 yX5_told ∈ x_tbl := x_mem 338 (by decide +kernel) rfl
set_option maxRecDepth 20000 in
theorem ln_RL_40 : Cond.methodLink R_law 40 yX6_told ∈ x_tbl := x_mem 818 (by decide +kernel) rfl
set_option maxRecDepth 20000 in
theorem ln_RL_41 : Cond.methodLink R_law 41 yX5_lane ∈ x_tbl := x_mem 366 (by decide +kernel) rfl
set_option maxRecDepth 20000 in
theorem ln_RL_44 : Cond.methodLink R_law 44 yX6_lane ∈ x_tbl := x_mem 835 (by decide +kernel) rfl
set_option maxRecDepth 20000 in
theorem ln_RL_45 : Cond.methodLink R_law 45 yX5_count ∈ x_tbl := x_mem 375 (by decide +kernel) rfl
set_option maxRecDepth 20000 in
theorem ln_RL_48 : Cond.methodLink R_law 48 yX6_count ∈ x_tbl := x_mem 839 (by decide +kernel) rfl
set_option maxRecDepth 20000 in
theorem ln_RL_49 : Cond.methodLink R_law 49 yX5_taken ∈ x_tbl := x_mem 390 (by decide +kernel) rfl
set_option maxRecDepth 20000 in
theorem ln_RL_52 : Cond.methodLink R_law 52 yX6_taken ∈ x_tbl := x_mem 847 (by decide +kernel) rfl
set_option maxRecDepth 20000 in
theorem ln_RL_53 : Cond.methodLink R_law 53 yX5_fill ∈ x_tbl := x_mem 399 (by decide +kernel) rfl
set_option maxRecDepth 20000 in
theorem ln_RL_57 : Cond.methodLink R_law 57 yX6_fill ∈ x_tbl := x_mem 851 (by decide +kernel) rfl
set_option maxRecDepth 20000 in
theorem ln_RL_58 : Cond.methodLink R_law 58 yX5_next ∈ x_tbl := x_mem 456 (by decide +kernel) rfl
set_option maxRecDepth 20000 in
theorem ln_RL_61 : Cond.methodLink R_law 61 yX6_next ∈ x_tbl := x_mem 887 (by decide +kernel) rfl
set_option maxRecDepth 20000 in
theorem ln_RL_62 : Cond.methodLink R_law 62 yX5_water ∈ x_tbl := x_mem 460 (by decide +kernel) rfl
set_option maxRecDepth 20000 in
theorem ln_RL_66 : Cond.methodLink R_law 66 yX6_water ∈ x_tbl := x_mem 891 (by decide +kernel) rfl
set_option maxRecDepth 20000 in
theorem ln_RL_67 : Cond.methodLink R_law 67 yX5_spent ∈ x_tbl := x_mem 465 (by decide +kernel) rfl
set_option maxRecDepth 20000 in
theorem ln_RL_71 : Cond.methodLink R_law 71 yX6_spent ∈ x_tbl := x_mem 896 (by decide +kernel) rfl
set_option maxRecDepth 20000 in
theorem ln_RL_72 : Cond.methodLink R_law 72 yX5_leave ∈ x_tbl := x_mem 473 (by decide +kernel) rfl
set_option maxRecDepth 20000 in
theorem ln_RL_75 : Cond.methodLink R_law 75 yX6_leave ∈ x_tbl := x_mem 900 (by decide +kernel) rfl
set_option maxRecDepth 20000 in
theorem ln_RL_76 : Cond.methodLink R_law 76 yX5_undo ∈ x_tbl := x_mem 477 (by decide +kernel) rfl
set_option maxRecDepth 20000 in
theorem ln_RL_79 : Cond.methodLink R_law 79 yX6_undo ∈ x_tbl := x_mem 904 (by decide +kernel) rfl
set_option maxRecDepth 20000 in
theorem ln_RL_80 : Cond.methodLink R_law 80 yX5_plan ∈ x_tbl := x_mem 485 (by decide +kernel) rfl
set_option maxRecDepth 20000 in
theorem ln_RL_83 : Cond.methodLink R_law 83 yX6_plan ∈ x_tbl := x_mem 908 (by decide +kernel) rfl
set_option maxRecDepth 20000 in
theorem ln_RL_84 : Cond.methodLink R_law 84 yX5_drought ∈ x_tbl := x_mem 489 (by decide +kernel) rfl
set_option maxRecDepth 20000 in
theorem ln_RL_87 : Cond.methodLink R_law 87 yX6_drought ∈ x_tbl := x_mem 912 (by decide +kernel) rfl
set_option maxRecDepth 20000 in
theorem ln_RL_88 : Cond.methodLink R_law 88 yX5_waits ∈ x_tbl := x_mem 502 (by decide +kernel) rfl
set_option maxRecDepth 20000 in
theorem ln_RL_91 : Cond.methodLink R_law 91 yX6_waits ∈ x_tbl := x_mem 916 (by decide +kernel) rfl
set_option maxRecDepth 20000 in
theorem ln_RL_92 : Cond.methodLink R_law 92 yX5_line ∈ x_tbl := x_mem 532 (by decide +kernel) rfl
set_option maxRecDepth 20000 in
theorem ln_RL_95 : Cond.methodLink R_law 95 yX6_line ∈ x_tbl := x_mem 928 (by decide +kernel) rfl
set_option maxRecDepth 20000 in
theorem ln_RL_96 : Cond.methodLink R_law 96 yX5_day ∈ x_tbl := x_mem 544 (by decide +kernel) rfl
set_option maxRecDepth 20000 in
theorem ln_RL_99 : Cond.methodLink R_law 99 yX6_day ∈ x_tbl := x_mem 932 (by decide +kernel) rfl
set_option maxRecDepth 20000 in
theorem ln_RL_100 : Cond.methodLink R_law 100 yX5_freely ∈ x_tbl := x_mem 553 (by decide +kernel) rfl
set_option maxRecDepth 20000 in
theorem ln_RL_103 : Cond.methodLink R_law 103 yX6_freely ∈ x_tbl := x_mem 936 (by decide +kernel) rfl
set_option maxRecDepth 20000 in
theorem ln_RL_104 : Cond.methodLink R_law 104 yX5_tells ∈ x_tbl := x_mem 584 (by decide +kernel) rfl
set_option maxRecDepth 20000 in
theorem ln_RL_108 : Cond.methodLink R_law 108 yX6_tells ∈ x_tbl := x_mem 948 (by decide +kernel) rfl
set_option maxRecDepth 20000 in
theorem ln_RL_109 : Cond.methodLink R_law 109 yX5_film ∈ x_tbl := x_mem 603 (by decide +kernel) rfl
set_option maxRecDepth 20000 in
theorem ln_RL_112 : Cond.methodLink R_law 112 yX6_film ∈ x_tbl := x_mem 959 (by decide +kernel) rfl
set_option maxRecDepth 20000 in
theorem ln_RL_113 : Cond.methodLink R_law 113 yX5_image ∈ x_tbl := x_mem 622 (by decide +kernel) rfl
set_option maxRecDepth 20000 in
theorem ln_RL_116 : Cond.methodLink R_law 116 yX6_image ∈ x_tbl := x_mem 963 (by decide +kernel) rfl
set_option maxRecDepth 20000 in
theorem ln_RL_117 : Cond.methodLink R_law 117 yX5_back ∈ x_tbl := x_mem 631 (by decide +kernel) rfl
set_option maxRecDepth 20000 in
theorem ln_RL_120 : Cond.methodLink R_law 120 yX6_back ∈ x_tbl := x_mem 975 (by decide +kernel) rfl
set_option maxRecDepth 20000 in
theorem ln_RL_121 : Cond.methodLink R_law 121 yX5_sheet ∈ x_tbl := x_mem 635 (by decide +kernel) rfl
set_option maxRecDepth 20000 in
theorem ln_RL_124 : Cond.methodLink R_law 124 yX6_sheet ∈ x_tbl := x_mem 979 (by decide +kernel) rfl
set_option maxRecDepth 20000 in
theorem ln_RL_125 : Cond.methodLink R_law 125 yX5_put ∈ x_tbl := x_mem 642 (by decide +kernel) rfl
set_option maxRecDepth 20000 in
theorem ln_RL_128 : Cond.methodLink R_law 128 yX6_put ∈ x_tbl := x_mem 983 (by decide +kernel) rfl
set_option maxRecDepth 20000 in
theorem ln_RL_129 : Cond.methodLink R_law 129 yX5_copy ∈ x_tbl := x_mem 647 (by decide +kernel) rfl
set_option maxRecDepth 20000 in
theorem ln_RL_132 : Cond.methodLink R_law 132 yX6_copy ∈ x_tbl := x_mem 987 (by decide +kernel) rfl
set_option maxRecDepth 20000 in
theorem ln_RL_133 : Cond.methodLink R_law 133 yX5_load ∈ x_tbl := x_mem 655 (by decide +kernel) rfl
set_option maxRecDepth 20000 in
theorem ln_RL_137 : Cond.methodLink R_law 137 yX6_load ∈ x_tbl := x_mem 991 (by decide +kernel) rfl
theorem ev_tr {o : xO} {t1 t2 : List (Nat × Instr × Nat)} {Q : Option Value → xSg → Prop} {pc : Nat} {f : xF} (ok1 : x_ok (R_law, x, code, 4, ret, 6, ([], [], [], []), t1)) (k : xEv o (R_law, x, code, 4, ret, 6, ([], [], [], []), t1) Q pc f) : xEv o (R_law, x, code, 4, ret, 6, ([], [], [], []), t2) Q pc f := fun _ => k ok1
theorem lw_ret2 {p : Program} {l : Launch} {e : Env} {s : State} {m : MethodId} {args : Array Value} {below : List Frame} {meth : Method} {c : Code} (hx : p.tables.exec = Jvm.exec) (hb : c.code = code) (hr : meth.sig.returnType = ret) (hlocks : meth.locks = false) {pc : Nat} {H : Heap} {ls : Array Slot} (hdg : decode code pc = .ok (.ireturn, 1)) : W p l e room_1 s m args below meth c H [] 600000 7302250 (lw_Z below args s) (F0 m pc ls [.int 1]) := by
  intro T hT X
  obtain ⟨fs, hret, hrun, hended, hW, hframe⟩ := X.leave (v := some (.int 1)) (hlocks := hlocks) (fun h => by rw [hr] at h; cases h)
  have hmeth' : T.vm.method? m = some meth := X.method'
  refine ⟨T.setFrames fs, ?_, .returned (some (.int 1)), hrun, hended, rfl, ⟨_, rfl⟩, hW, hframe⟩
  jvm_step X.here [X.here.top, hx, hb, hdg, hmeth', hr, ret, narrow_b1]
  (try refine ⟨rfl, ?_⟩); (try refine ⟨rfl, ?_⟩)
  first | (intro acts; rw [hret _ acts rfl rfl rfl]) | rw [hret _ _ rfl rfl rfl]
  exact Steps.refl _
set_option maxRecDepth 100000 in
theorem ev_end {L : Nat} {xs : Nat → Int32} {Q : Option Value → xSg → Prop} {Lc : List (Option Value)} {σ : xSg} : xEv (.inr (L, xs)) M_law Q 1056 (Lc, [.int 1], σ) := by
  intro ok p l e s m args below meth c ad ca D X H locs ls hP hS hL
  exact va_forget (fun q hq => hS.2.2 q hq) (lw_ret2 X.1 X.2.1 X.2.2.2.1 X.2.2.2.2.1 (x_tbd (pc := 1056) (i := .ireturn) ok rfl))
theorem RH0_of {τ σ' : xSg} {S : zS} (h : RH0 τ S) (hf : ∀ c, 57 ≤ c → σ' c = τ c) : RH0 σ' S := RH0_fr h (fun c hc => hf c (by omega)) (fun i _ => by rw [hf 57 (by omega)])
theorem CH0_of {τ σ' : xSg} {S : zS} (h : CH0 τ S) (hf : ∀ c, c < 57 → σ' c = τ c) : CH0 σ' S := CH0_fr h (fun c hc => hf c (by omega))
theorem lw_lt {L i : Nat} (hL : L ≤ 3072) (hi : i ≤ 4000) : (Int32.ofNat L - (6 : Int32) < nI i) ↔ L < i + 6 := by
  rw [Int32.lt_iff_toInt_lt, Int32.toInt_sub, nI_toInt (by omega), show (Int32.ofNat L).toInt = (L : Int) from nI_toInt (n := L) (by omega), show (6 : Int32).toInt = 6 by decide, Int.bmod_def]
  split <;> omega
