/-! ### the law and its nine callers, as records -/
def mt_L_feed : mM := (yL_feed, cL_feed, (6, (some .int), 4, 0, 1), (1039, 1038, 0, 144),
  [(0, .aload 4), (2, .iconst 0), (3, .aload_n 0), (4, .lload_n 1), (5, .iload_n 3), (6, .invokevirtual 7), (9, .i2l), (10, .lastore), (11, .goto 11), (14, .astore 5), (16, .iconst 1), (17, .ireturn), (18, .astore 5), (20, .iconst 2), (21, .ireturn), (22, .iconst 0), (23, .ireturn)],
  [(7, 2, 98, 2, 1042)], none)
set_option maxRecDepth 100000 in
theorem mk_L_feed : (mt_L_feed.2.2.2.2.1.all (mx_rowok cL_feed) && mt_L_feed.2.2.2.2.2.1.all (mx_lkok (fun a => mt_nm[a]?) RL)) = true := by decide +kernel
theorem mw_L_feed : mx_wok (fun a => mt_tab[a]?.map (fun M => M.1)) mt_L_feed := by
  rw [mt_names]
  have h := mk_L_feed
  simp only [Bool.and_eq_true, List.all_eq_true] at h
  exact ⟨h.1, h.2, fun ci q => by cases q⟩
def hh_feed : List (Nat × Nat × Nat × Nat) := [(0, 11, 14, 13), (0, 11, 18, 15)]
theorem hw_feed : (mx_at 1039 (.codeWith yL_feed cL_feed 6 (some .int) hh_feed) && mx_at 1038 (.static yL_feed) && mx_at 144 (.initialized RL) && mx_at 1037 (.methodLink RL 52 yL_feed)) = true := by decide +kernel
def mt_L_cls : mM := (yL_cls, cL_cls, (5, (some .int), 4, 0, 1), (1136, 1135, 0, 144),
  [(0, .aload_n 3), (1, .iconst 0), (2, .aload_n 0), (3, .iload_n 1), (4, .iload_n 2), (5, .invokevirtual 17), (8, .lastore), (9, .goto 11), (12, .astore 4), (14, .iconst 1), (15, .ireturn), (16, .astore 4), (18, .iconst 2), (19, .ireturn), (20, .iconst 0), (21, .ireturn)],
  [(17, 2, 101, 2, 1138)], none)
set_option maxRecDepth 100000 in
theorem mk_L_cls : (mt_L_cls.2.2.2.2.1.all (mx_rowok cL_cls) && mt_L_cls.2.2.2.2.2.1.all (mx_lkok (fun a => mt_nm[a]?) RL)) = true := by decide +kernel
theorem mw_L_cls : mx_wok (fun a => mt_tab[a]?.map (fun M => M.1)) mt_L_cls := by
  rw [mt_names]
  have h := mk_L_cls
  simp only [Bool.and_eq_true, List.all_eq_true] at h
  exact ⟨h.1, h.2, fun ci q => by cases q⟩
def hh_cls : List (Nat × Nat × Nat × Nat) := [(0, 9, 12, 21), (0, 9, 16, 13)]
theorem hw_cls : (mx_at 1136 (.codeWith yL_cls cL_cls 5 (some .int) hh_cls) && mx_at 1135 (.static yL_cls) && mx_at 144 (.initialized RL) && mx_at 1134 (.methodLink RL 70 yL_cls)) = true := by decide +kernel
def mt_L_isAbove : mM := (yL_isAbove, cL_isAbove, (5, (some .int), 4, 0, 1), (1169, 1168, 0, 144),
  [(0, .aload_n 3), (1, .iconst 0), (2, .aload_n 0), (3, .iload_n 1), (4, .iload_n 2), (5, .invokevirtual 23), (8, .i2l), (9, .lastore), (10, .goto 7), (13, .astore 4), (15, .iconst 1), (16, .ireturn), (17, .iconst 0), (18, .ireturn)],
  [(23, 2, 102, 2, 1170)], none)
set_option maxRecDepth 100000 in
theorem mk_L_isAbove : (mt_L_isAbove.2.2.2.2.1.all (mx_rowok cL_isAbove) && mt_L_isAbove.2.2.2.2.2.1.all (mx_lkok (fun a => mt_nm[a]?) RL)) = true := by decide +kernel
theorem mw_L_isAbove : mx_wok (fun a => mt_tab[a]?.map (fun M => M.1)) mt_L_isAbove := by
  rw [mt_names]
  have h := mk_L_isAbove
  simp only [Bool.and_eq_true, List.all_eq_true] at h
  exact ⟨h.1, h.2, fun ci q => by cases q⟩
def hh_isAbove : List (Nat × Nat × Nat × Nat) := [(0, 10, 13, 21)]
theorem hw_isAbove : (mx_at 1169 (.codeWith yL_isAbove cL_isAbove 5 (some .int) hh_isAbove) && mx_at 1168 (.static yL_isAbove) && mx_at 144 (.initialized RL) && mx_at 1167 (.methodLink RL 74 yL_isAbove)) = true := by decide +kernel
def mt_L_parameter : mM := (yL_parameter, cL_parameter, (5, (some .int), 4, 0, 1), (1177, 1176, 0, 144),
  [(0, .aload_n 3), (1, .iconst 0), (2, .aload_n 0), (3, .iload_n 1), (4, .iload_n 2), (5, .invokevirtual 27), (8, .lastore), (9, .goto 11), (12, .astore 4), (14, .iconst 1), (15, .ireturn), (16, .astore 4), (18, .iconst 2), (19, .ireturn), (20, .iconst 0), (21, .ireturn)],
  [(27, 2, 103, 2, 1178)], none)
set_option maxRecDepth 100000 in
theorem mk_L_parameter : (mt_L_parameter.2.2.2.2.1.all (mx_rowok cL_parameter) && mt_L_parameter.2.2.2.2.2.1.all (mx_lkok (fun a => mt_nm[a]?) RL)) = true := by decide +kernel
theorem mw_L_parameter : mx_wok (fun a => mt_tab[a]?.map (fun M => M.1)) mt_L_parameter := by
  rw [mt_names]
  have h := mk_L_parameter
  simp only [Bool.and_eq_true, List.all_eq_true] at h
  exact ⟨h.1, h.2, fun ci q => by cases q⟩
def hh_parameter : List (Nat × Nat × Nat × Nat) := [(0, 9, 12, 21), (0, 9, 16, 13)]
theorem hw_parameter : (mx_at 1177 (.codeWith yL_parameter cL_parameter 5 (some .int) hh_parameter) && mx_at 1176 (.static yL_parameter) && mx_at 144 (.initialized RL) && mx_at 1175 (.methodLink RL 77 yL_parameter)) = true := by decide +kernel
def mt_L_way : mM := (yL_way, cL_way, (5, (some .int), 4, 0, 1), (1186, 1185, 0, 144),
  [(0, .aload_n 3), (1, .iconst 0), (2, .aload_n 0), (3, .iload_n 1), (4, .iload_n 2), (5, .invokevirtual 30), (8, .i2l), (9, .lastore), (10, .goto 7), (13, .astore 4), (15, .iconst 1), (16, .ireturn), (17, .iconst 0), (18, .ireturn)],
  [(30, 2, 104, 2, 1187)], none)
set_option maxRecDepth 100000 in
theorem mk_L_way : (mt_L_way.2.2.2.2.1.all (mx_rowok cL_way) && mt_L_way.2.2.2.2.2.1.all (mx_lkok (fun a => mt_nm[a]?) RL)) = true := by decide +kernel
theorem mw_L_way : mx_wok (fun a => mt_tab[a]?.map (fun M => M.1)) mt_L_way := by
  rw [mt_names]
  have h := mk_L_way
  simp only [Bool.and_eq_true, List.all_eq_true] at h
  exact ⟨h.1, h.2, fun ci q => by cases q⟩
def hh_way : List (Nat × Nat × Nat × Nat) := [(0, 10, 13, 21)]
theorem hw_way : (mx_at 1186 (.codeWith yL_way cL_way 5 (some .int) hh_way) && mx_at 1185 (.static yL_way) && mx_at 144 (.initialized RL) && mx_at 1184 (.methodLink RL 80 yL_way)) = true := by decide +kernel
def mt_L_ask : mM := (yL_ask, cL_ask, (4, (some .int), 3, 0, 1), (1193, 1192, 0, 144),
  [(0, .aload_n 2), (1, .iconst 0), (2, .aload_n 0), (3, .iload_n 1), (4, .invokevirtual 33), (7, .i2l), (8, .lastore), (9, .goto 6), (12, .astore_n 3), (13, .iconst 1), (14, .ireturn), (15, .iconst 0), (16, .ireturn)],
  [(33, 2, 105, 1, 1194)], none)
set_option maxRecDepth 100000 in
theorem mk_L_ask : (mt_L_ask.2.2.2.2.1.all (mx_rowok cL_ask) && mt_L_ask.2.2.2.2.2.1.all (mx_lkok (fun a => mt_nm[a]?) RL)) = true := by decide +kernel
theorem mw_L_ask : mx_wok (fun a => mt_tab[a]?.map (fun M => M.1)) mt_L_ask := by
  rw [mt_names]
  have h := mk_L_ask
  simp only [Bool.and_eq_true, List.all_eq_true] at h
  exact ⟨h.1, h.2, fun ci q => by cases q⟩
def hh_ask : List (Nat × Nat × Nat × Nat) := [(0, 9, 12, 13)]
theorem hw_ask : (mx_at 1193 (.codeWith yL_ask cL_ask 4 (some .int) hh_ask) && mx_at 1192 (.static yL_ask) && mx_at 144 (.initialized RL) && mx_at 1191 (.methodLink RL 83 yL_ask)) = true := by decide +kernel
def mt_L_told : mM := (yL_told, cL_told, (4, (some .int), 3, 0, 1), (1236, 1235, 0, 144),
  [(0, .aload_n 2), (1, .iconst 0), (2, .aload_n 0), (3, .iload_n 1), (4, .invokevirtual 37), (7, .i2l), (8, .lastore), (9, .goto 6), (12, .astore_n 3), (13, .iconst 1), (14, .ireturn), (15, .iconst 0), (16, .ireturn)],
  [(37, 2, 106, 1, 1237)], none)
set_option maxRecDepth 100000 in
theorem mk_L_told : (mt_L_told.2.2.2.2.1.all (mx_rowok cL_told) && mt_L_told.2.2.2.2.2.1.all (mx_lkok (fun a => mt_nm[a]?) RL)) = true := by decide +kernel
theorem mw_L_told : mx_wok (fun a => mt_tab[a]?.map (fun M => M.1)) mt_L_told := by
  rw [mt_names]
  have h := mk_L_told
  simp only [Bool.and_eq_true, List.all_eq_true] at h
  exact ⟨h.1, h.2, fun ci q => by cases q⟩
def hh_told : List (Nat × Nat × Nat × Nat) := [(0, 9, 12, 13)]
theorem hw_told : (mx_at 1236 (.codeWith yL_told cL_told 4 (some .int) hh_told) && mx_at 1235 (.static yL_told) && mx_at 144 (.initialized RL) && mx_at 1234 (.methodLink RL 87 yL_told)) = true := by decide +kernel
def mt_L_variable : mM := (yL_variable, cL_variable, (5, (some .int), 4, 0, 1), (1244, 1243, 0, 144),
  [(0, .aload_n 3), (1, .iconst 0), (2, .aload_n 0), (3, .iload_n 1), (4, .iload_n 2), (5, .invokevirtual 40), (8, .i2l), (9, .lastore), (10, .goto 7), (13, .astore 4), (15, .iconst 1), (16, .ireturn), (17, .iconst 0), (18, .ireturn)],
  [(40, 2, 108, 2, 1245)], none)
set_option maxRecDepth 100000 in
theorem mk_L_variable : (mt_L_variable.2.2.2.2.1.all (mx_rowok cL_variable) && mt_L_variable.2.2.2.2.2.1.all (mx_lkok (fun a => mt_nm[a]?) RL)) = true := by decide +kernel
theorem mw_L_variable : mx_wok (fun a => mt_tab[a]?.map (fun M => M.1)) mt_L_variable := by
  rw [mt_names]
  have h := mk_L_variable
  simp only [Bool.and_eq_true, List.all_eq_true] at h
  exact ⟨h.1, h.2, fun ci q => by cases q⟩
def hh_variable : List (Nat × Nat × Nat × Nat) := [(0, 10, 13, 21)]
theorem hw_variable : (mx_at 1244 (.codeWith yL_variable cL_variable 5 (some .int) hh_variable) && mx_at 1243 (.static yL_variable) && mx_at 144 (.initialized RL) && mx_at 1242 (.methodLink RL 94 yL_variable)) = true := by decide +kernel
def mt_L_written : mM := (yL_written, cL_written, (4, (some .int), 3, 0, 1), (1253, 1252, 0, 144),
  [(0, .aload_n 2), (1, .iconst 0), (2, .aload_n 0), (3, .iload_n 1), (4, .invokevirtual 43), (7, .i2l), (8, .lastore), (9, .goto 6), (12, .astore_n 3), (13, .iconst 1), (14, .ireturn), (15, .iconst 0), (16, .ireturn)],
  [(43, 2, 109, 1, 1254)], none)
set_option maxRecDepth 100000 in
theorem mk_L_written : (mt_L_written.2.2.2.2.1.all (mx_rowok cL_written) && mt_L_written.2.2.2.2.2.1.all (mx_lkok (fun a => mt_nm[a]?) RL)) = true := by decide +kernel
theorem mw_L_written : mx_wok (fun a => mt_tab[a]?.map (fun M => M.1)) mt_L_written := by
  rw [mt_names]
  have h := mk_L_written
  simp only [Bool.and_eq_true, List.all_eq_true] at h
  exact ⟨h.1, h.2, fun ci q => by cases q⟩
def hh_written : List (Nat × Nat × Nat × Nat) := [(0, 9, 12, 21)]
theorem hw_written : (mx_at 1253 (.codeWith yL_written cL_written 4 (some .int) hh_written) && mx_at 1252 (.static yL_written) && mx_at 144 (.initialized RL) && mx_at 1251 (.methodLink RL 97 yL_written)) = true := by decide +kernel
def mt_L_law : mM := (yL_law, cL_law, (8, (some .boolean), 1, 0, 1), (0, 0, 0, 144),
  [(0, .new 8), (3, .dup), (4, .invokespecial 46), (7, .astore_n 1), (8, .new 47), (11, .dup), (12, .invokespecial 49), (15, .astore_n 2), (16, .iconst 1), (17, .newarray .long), (19, .astore_n 3), (20, .iconst 0), (21, .istore 4), (23, .iload 4), (25, .aload_n 0), (26, .arraylength), (27, .iconst 4), (28, .isub), (29, .if_icmp .gt 737), (32, .aload_n 0), (33, .iload 4), (35, .iaload), (36, .bipush 15), (38, .iand), (39, .tableswitch 721 0 12 #[65, 165, 178, 191, 258, 326, 393, 461, 517, 573, 586, 654, 710]), (104, .aload_n 1), (105, .aload_n 0), (106, .iload 4), (108, .iconst 1), (109, .iadd), (110, .iaload), (111, .i2l), (112, .bipush 32), (114, .lshl), (115, .aload_n 0), (116, .iload 4), (118, .iconst 2), (119, .iadd), (120, .iaload), (121, .i2l), (122, .ldc2_w 50), (125, .land), (126, .lor), (127, .aload_n 0), (128, .iload 4), (130, .iconst 3), (131, .iadd), (132, .iaload), (133, .aload_n 3), (134, .invokestatic 52), (137, .istore 5), (139, .aload_n 2), (140, .aload_n 0), (141, .iload 4), (143, .iconst 1), (144, .iadd), (145, .iaload), (146, .i2l), (147, .bipush 32), (149, .lshl), (150, .aload_n 0), (151, .iload 4), (153, .iconst 2), (154, .iadd), (155, .iaload), (156, .i2l), (157, .ldc2_w 50), (160, .land), (161, .lor), (162, .aload_n 0), (163, .iload 4), (165, .iconst 3), (166, .iadd), (167, .iaload), (168, .invokevirtual 57), (171, .istore 6), (173, .aload_n 2), (174, .invokevirtual 58), (177, .iload 5), (179, .if_icmp .eq 5), (182, .iconst 0), (183, .ireturn), (184, .iload 5), (186, .ifCond .ne 15), (189, .aload_n 3), (190, .iconst 0), (191, .laload), (192, .iload 6), (194, .i2l), (195, .lcmp), (196, .ifCond .eq 5), (199, .iconst 0), (200, .ireturn), (201, .goto 559), (204, .aload_n 1), (205, .invokevirtual 62), (208, .aload_n 2), (209, .invokevirtual 65), (212, .if_icmp .eq 548), (215, .iconst 0), (216, .ireturn), (217, .aload_n 1), (218, .invokevirtual 66), (221, .aload_n 2), (222, .invokevirtual 69), (225, .if_icmp .eq 535), (228, .iconst 0), (229, .ireturn), (230, .aload_n 1), (231, .aload_n 0), (232, .iload 4), (234, .iconst 1), (235, .iadd), (236, .iaload), (237, .aload_n 0), (238, .iload 4), (240, .iconst 2), (241, .iadd), (242, .iaload), (243, .aload_n 3), (244, .invokestatic 70), (247, .istore 5), (249, .aload_n 2), (250, .aload_n 0), (251, .iload 4), (253, .iconst 1), (254, .iadd), (255, .iaload), (256, .aload_n 0), (257, .iload 4), (259, .iconst 2), (260, .iadd), (261, .iaload), (262, .invokevirtual 73), (265, .lstore 6), (267, .aload_n 2), (268, .invokevirtual 58), (271, .iload 5), (273, .if_icmp .eq 5), (276, .iconst 0), (277, .ireturn), (278, .iload 5), (280, .ifCond .ne 14), (283, .aload_n 3), (284, .iconst 0), (285, .laload), (286, .lload 6), (288, .lcmp), (289, .ifCond .eq 5), (292, .iconst 0), (293, .ireturn), (294, .goto 466), (297, .aload_n 1), (298, .aload_n 0), (299, .iload 4), (301, .iconst 1), (302, .iadd), (303, .iaload), (304, .aload_n 0), (305, .iload 4), (307, .iconst 2), (308, .iadd), (309, .iaload), (310, .aload_n 3), (311, .invokestatic 74), (314, .istore 5), (316, .aload_n 2), (317, .aload_n 0), (318, .iload 4), (320, .iconst 1), (321, .iadd), (322, .iaload), (323, .aload_n 0), (324, .iload 4), (326, .iconst 2), (327, .iadd), (328, .iaload), (329, .invokevirtual 76), (332, .istore 6), (334, .aload_n 2), (335, .invokevirtual 58), (338, .iload 5), (340, .if_icmp .eq 5), (343, .iconst 0), (344, .ireturn), (345, .iload 5), (347, .ifCond .ne 15), (350, .aload_n 3), (351, .iconst 0), (352, .laload), (353, .iload 6), (355, .i2l), (356, .lcmp), (357, .ifCond .eq 5), (360, .iconst 0), (361, .ireturn), (362, .goto 398), (365, .aload_n 1), (366, .aload_n 0), (367, .iload 4), (369, .iconst 1), (370, .iadd), (371, .iaload), (372, .aload_n 0), (373, .iload 4), (375, .iconst 2), (376, .iadd), (377, .iaload), (378, .aload_n 3), (379, .invokestatic 77), (382, .istore 5), (384, .aload_n 2), (385, .aload_n 0), (386, .iload 4), (388, .iconst 1), (389, .iadd), (390, .iaload), (391, .aload_n 0), (392, .iload 4), (394, .iconst 2), (395, .iadd), (396, .iaload), (397, .invokevirtual 79), (400, .lstore 6), (402, .aload_n 2), (403, .invokevirtual 58), (406, .iload 5), (408, .if_icmp .eq 5), (411, .iconst 0), (412, .ireturn), (413, .iload 5), (415, .ifCond .ne 14), (418, .aload_n 3), (419, .iconst 0), (420, .laload), (421, .lload 6), (423, .lcmp), (424, .ifCond .eq 5), (427, .iconst 0), (428, .ireturn), (429, .goto 331), (432, .aload_n 1), (433, .aload_n 0), (434, .iload 4), (436, .iconst 1), (437, .iadd), (438, .iaload), (439, .aload_n 0), (440, .iload 4), (442, .iconst 2), (443, .iadd), (444, .iaload), (445, .aload_n 3), (446, .invokestatic 80), (449, .istore 5), (451, .aload_n 2), (452, .aload_n 0), (453, .iload 4), (455, .iconst 1), (456, .iadd), (457, .iaload), (458, .aload_n 0), (459, .iload 4), (461, .iconst 2), (462, .iadd), (463, .iaload), (464, .invokevirtual 82), (467, .istore 6), (469, .aload_n 2), (470, .invokevirtual 58), (473, .iload 5), (475, .if_icmp .eq 5), (478, .iconst 0), (479, .ireturn), (480, .iload 5), (482, .ifCond .ne 15), (485, .aload_n 3), (486, .iconst 0), (487, .laload), (488, .iload 6), (490, .i2l), (491, .lcmp), (492, .ifCond .eq 5), (495, .iconst 0), (496, .ireturn), (497, .goto 263), (500, .aload_n 1), (501, .aload_n 0), (502, .iload 4), (504, .iconst 1), (505, .iadd), (506, .iaload), (507, .aload_n 3), (508, .invokestatic 83), (511, .istore 5), (513, .aload_n 2), (514, .aload_n 0), (515, .iload 4), (517, .iconst 1), (518, .iadd), (519, .iaload), (520, .invokevirtual 86), (523, .istore 6), (525, .aload_n 2), (526, .invokevirtual 58), (529, .iload 5), (531, .if_icmp .eq 5), (534, .iconst 0), (535, .ireturn), (536, .iload 5), (538, .ifCond .ne 15), (541, .aload_n 3), (542, .iconst 0), (543, .laload), (544, .iload 6), (546, .i2l), (547, .lcmp), (548, .ifCond .eq 5), (551, .iconst 0), (552, .ireturn), (553, .goto 207), (556, .aload_n 1), (557, .aload_n 0), (558, .iload 4), (560, .iconst 1), (561, .iadd), (562, .iaload), (563, .aload_n 3), (564, .invokestatic 87), (567, .istore 5), (569, .aload_n 2), (570, .aload_n 0), (571, .iload 4), (573, .iconst 1), (574, .iadd), (575, .iaload), (576, .invokevirtual 89), (579, .istore 6), (581, .aload_n 2), (582, .invokevirtual 58), (585, .iload 5), (587, .if_icmp .eq 5), (590, .iconst 0), (591, .ireturn), (592, .iload 5), (594, .ifCond .ne 15), (597, .aload_n 3), (598, .iconst 0), (599, .laload), (600, .iload 6), (602, .i2l), (603, .lcmp), (604, .ifCond .eq 5), (607, .iconst 0), (608, .ireturn), (609, .goto 151), (612, .aload_n 1), (613, .invokevirtual 90), (616, .aload_n 2), (617, .invokevirtual 93), (620, .if_icmp .eq 140), (623, .iconst 0), (624, .ireturn), (625, .aload_n 1), (626, .aload_n 0), (627, .iload 4), (629, .iconst 1), (630, .iadd), (631, .iaload), (632, .aload_n 0), (633, .iload 4), (635, .iconst 2), (636, .iadd), (637, .iaload), (638, .aload_n 3), (639, .invokestatic 94), (642, .istore 5), (644, .aload_n 2), (645, .aload_n 0), (646, .iload 4), (648, .iconst 1), (649, .iadd), (650, .iaload), (651, .aload_n 0), (652, .iload 4), (654, .iconst 2), (655, .iadd), (656, .iaload), (657, .invokevirtual 96), (660, .istore 6), (662, .aload_n 2), (663, .invokevirtual 58), (666, .iload 5), (668, .if_icmp .eq 5), (671, .iconst 0), (672, .ireturn), (673, .iload 5), (675, .ifCond .ne 15), (678, .aload_n 3), (679, .iconst 0), (680, .laload), (681, .iload 6), (683, .i2l), (684, .lcmp), (685, .ifCond .eq 5), (688, .iconst 0), (689, .ireturn), (690, .goto 70), (693, .aload_n 1), (694, .aload_n 0), (695, .iload 4), (697, .iconst 1), (698, .iadd), (699, .iaload), (700, .aload_n 3), (701, .invokestatic 97), (704, .istore 5), (706, .aload_n 2), (707, .aload_n 0), (708, .iload 4), (710, .iconst 1), (711, .iadd), (712, .iaload), (713, .invokevirtual 99), (716, .istore 6), (718, .aload_n 2), (719, .invokevirtual 58), (722, .iload 5), (724, .if_icmp .eq 5), (727, .iconst 0), (728, .ireturn), (729, .iload 5), (731, .ifCond .ne 15), (734, .aload_n 3), (735, .iconst 0), (736, .laload), (737, .iload 6), (739, .i2l), (740, .lcmp), (741, .ifCond .eq 5), (744, .iconst 0), (745, .ireturn), (746, .goto 14), (749, .aload_n 1), (750, .invokevirtual 100), (753, .aload_n 2), (754, .invokevirtual 103), (757, .goto 3), (760, .iinc 4 4), (763, .goto (-740)), (766, .iconst 1), (767, .ireturn)],
  [(8, 9, 8, 0, 169), (46, 6, 97, 0, 171), (47, 9, 9, 0, 1259), (49, 6, 117, 0, 1261), (50, 11, 0, 1800, 4294967295), (57, 2, 180, 2, 1751), (58, 2, 191, 0, 1796), (62, 2, 99, 0, 635), (65, 2, 149, 0, 1526), (66, 2, 100, 0, 936), (69, 2, 181, 0, 1755), (73, 2, 183, 2, 1759), (76, 2, 185, 2, 1772), (79, 2, 187, 2, 1776), (82, 2, 188, 2, 1784), (86, 2, 172, 1, 1655), (89, 2, 189, 1, 1788), (90, 2, 107, 0, 940), (93, 2, 173, 0, 1723), (96, 2, 178, 2, 1743), (99, 2, 179, 1, 1747), (100, 2, 110, 0, 1032), (103, 2, 190, 0, 1792)], none)
set_option maxRecDepth 100000 in
theorem mk_L_law : (mt_L_law.2.2.2.2.1.all (mx_rowok cL_law) && mt_L_law.2.2.2.2.2.1.all (mx_lkok (fun a => mt_nm[a]?) RL)) = true := by decide +kernel
theorem mw_L_law : mx_wok (fun a => mt_tab[a]?.map (fun M => M.1)) mt_L_law := by
  rw [mt_names]
  have h := mk_L_law
  simp only [Bool.and_eq_true, List.all_eq_true] at h
  exact ⟨h.1, h.2, fun ci q => by cases q⟩
def ml_w1 : mW := ([.inl (8, [.ref 1, .ref 6, .ref 10, .ref 14, .ref 32, .ref 50, .ref 52, .int 0]),
  .inl (5, [.ref 2, .ref 3, .ref 4, .ref 5, .int 0, .int 0, .int 0, .int 0, .long 0]),
  .inr ((0, 800), .inl (0, [])),
  .inr ((0, 801), .inl (0, [])),
  .inr ((0, 801), .inl (0, [])),
  .inr ((1, 801), .inr (0, [])),
  .inl (7, [.ref 7, .ref 8, .ref 9, .int 0]),
  .inr ((0, 6400), .inl (0, [])),
  .inr ((0, 6400), .inl (0, [])),
  .inr ((0, 80), .inl (0, [])),
  .inl (2, [.ref 11, .ref 12, .ref 13, .int 0, .int 0]),
  .inr ((0, 1000), .inl (0, [])),
  .inr ((0, 1001), .inl (0, [])),
  .inr ((0, 1001), .inl (0, [])),
  .inl (4, [.ref 15, .ref 16, .ref 17, .ref 18, .ref 19, .ref 20, .ref 21, .ref 22, .ref 23, .ref 24, .ref 25, .ref 26, .int 1, .int 0, .int 0]),
  .inr ((1, 21), .inr (0, [(0, 4288121)])),
  .inr ((0, 21), .inl (0, [(0, 0)])),
  .inr ((0, 21), .inl (0, [(0, 0)])),
  .inr ((0, 21), .inl (0, [(0, 0)])),
  .inr ((0, 84), .inl (0, [])),
  .inr ((1, 80), .inr (0, [])),
  .inr ((0, 80), .inl (0, [])),
  .inr ((0, 80), .inl (0, [])),
  .inr ((0, 160), .inl (0, [])),
  .inr ((0, 160), .inl (0, [])),
  .inr ((0, 300), .inl (0, [])),
  .inl (1, [.ref 27, .ref 28, .ref 29, .ref 30, .int 0, .ref 31, .int 1]),
  .inr ((0, 441), .inl (0, [(0, 0)])),
  .inr ((0, 441), .inl (0, [(0, 1)])),
  .inr ((0, 4), .inl (0, [])),
  .inr ((0, 4), .inl (0, [])),
  .inr ((0, 1024), .inl (0, [(0, 0)])),
  .inl (4, [.ref 33, .ref 34, .ref 35, .ref 36, .ref 37, .ref 38, .ref 39, .ref 40, .ref 41, .ref 42, .ref 43, .ref 44, .int 1, .int 0, .int 0]),
  .inr ((1, 21), .inr (0, [(0, 4288121)])),
  .inr ((0, 21), .inl (0, [(0, 0)])),
  .inr ((0, 21), .inl (0, [(0, 0)])),
  .inr ((0, 21), .inl (0, [(0, 0)])),
  .inr ((0, 84), .inl (0, [])),
  .inr ((1, 80), .inr (0, [])),
  .inr ((0, 80), .inl (0, [])),
  .inr ((0, 80), .inl (0, [])),
  .inr ((0, 160), .inl (0, [])),
  .inr ((0, 160), .inl (0, [])),
  .inr ((0, 300), .inl (0, [])),
  .inl (1, [.ref 45, .ref 46, .ref 47, .ref 48, .int 0, .ref 49, .int 1]),
  .inr ((0, 441), .inl (0, [(0, 0)])),
  .inr ((0, 441), .inl (0, [(0, 1)])),
  .inr ((0, 4), .inl (0, [])),
  .inr ((0, 4), .inl (0, [])),
  .inr ((0, 1024), .inl (0, [(0, 0)])),
  .inl (3, [.ref 1, .ref 51, .ref 14, .ref 51, .int 0, .int 0, .int 0, .int 0, .int 0, .int 0, .int 0]),
  .inr ((0, 300), .inl (0, [])),
  .inl (0, [.ref 59, .ref 53, .ref 54, .ref 55, .ref 56, .ref 57, .ref 58, .ref 14, .int 0, .int 0, .int 0, .int 0, .int 0, .int 0, .int 0]),
  .inr ((0, 300), .inl (0, [])),
  .inr ((0, 900), .inl (0, [])),
  .inr ((0, 300), .inl (0, [])),
  .inr ((0, 4), .inl (0, [])),
  .inr ((0, 8), .inl (0, [])),
  .inr ((0, 164), .inl (0, [])),
  .inl (6, [.ref 60, .ref 61, .ref 62, .ref 63, .ref 64, .ref 65, .ref 14, .int 1, .int 0]),
  .inr ((0, 7000), .inl (0, [(0, 0)])),
  .inr ((0, 7000), .inl (0, [(0, 0)])),
  .inr ((0, 7000), .inl (0, [(0, (-1))])),
  .inr ((0, 7000), .inl (0, [])),
  .inr ((0, 2048), .inl ((-1), [(0, 0)])),
  .inr ((0, 300), .inl (0, [])),
  .inl (9, [.ref 67, .ref 68, .ref 69, .ref 70, .ref 71, .ref 72, .ref 73, .int 0, .int 1, .ref 74, .ref 75, .ref 76, .ref 77, .ref 78, .ref 79, .ref 80, .ref 81, .ref 82, .ref 83, .ref 84, .int 1, .int 0, .int 0, .int 1, .int 0, .int 0, .int 0, .int 0, .ref 85, .int 0, .int 0, .int 0, .int 0, .int 0, .int 0, .int 0, .int 0, .int 0, .int 0, .ref 86, .ref 87, .int 0, .ref 88, .ref 89, .ref 90, .int 0, .int 0, .int 0, .int 0, .ref 91, .ref 92, .ref 93, .ref 94, .ref 95, .int 0, .ref 96, .int 0, .int 0, .ref 97, .ref 98, .int 0, .ref 99, .ref 100, .ref 101, .ref 102, .ref 103, .ref 104, .ref 105, .int 0, .ref 106, .int 0, .int 0, .int 0, .ref 107, .int 0, .int 0, .int 0]),
  .inr ((0, 20000), .inl (0, [(0, 0)])),
  .inr ((0, 20000), .inl (0, [(0, 0)])),
  .inr ((0, 20000), .inl (0, [(0, 0)])),
  .inr ((0, 80000), .inl (0, [])),
  .inr ((0, 20000), .inl (0, [(0, 1)])),
  .inr ((0, 20000), .inl (0, [(0, (-1))])),
  .inr ((0, 2048), .inl ((-1), [(0, 0)])),
  .inr ((0, 4), .inl (0, [])),
  .inr ((1, 42), .inr (0, [(0, 4288121)])),
  .inr ((0, 42), .inl (0, [(0, 0)])),
  .inr ((0, 42), .inl (0, [(0, 0)])),
  .inr ((0, 168), .inl (0, [])),
  .inr ((0, 42), .inl (0, [(0, 0)])),
  .inr ((0, 882), .inl (0, [(0, 0), (20, (-1)), (19, (-1)), (18, (-1)), (17, (-1)), (16, (-1)), (15, (-1)), (14, (-1)), (13, (-1)), (12, (-1)), (11, (-1)), (10, (-1)), (9, (-1)), (8, (-1)), (7, (-1)), (6, (-1)), (5, (-1)), (4, (-1)), (3, (-1)), (2, (-1)), (1, (-1)), (0, (-1))])),
  .inr ((1, 160), .inr (0, [])),
  .inr ((0, 160), .inl (0, [])),
  .inr ((0, 320), .inl (0, [])),
  .inr ((0, 160), .inl (0, [])),
  .inr ((0, 800), .inl (0, [])),
  .inr ((0, 6400), .inl (0, [])),
  .inr ((2, 6400), .inl (0, [])),
  .inr ((0, 900), .inl (0, [])),
  .inr ((0, 300), .inl (0, [])),
  .inr ((0, 300), .inl (0, [])),
  .inr ((0, 42), .inl (0, [])),
  .inr ((0, 42), .inl (0, [])),
  .inr ((0, 42), .inl (0, [])),
  .inr ((0, 42), .inl (0, [])),
  .inr ((0, 42), .inl (0, [])),
  .inr ((3, 1000), .inl (0, [])),
  .inr ((0, 20000), .inl (0, [])),
  .inr ((0, 20000), .inl (0, [])),
  .inr ((0, 20000), .inl (0, [])),
  .inr ((2, 10), .inl (0, [])),
  .inr ((0, 10), .inl (0, [])),
  .inr ((0, 10), .inl (0, [])),
  .inr ((0, 40), .inl (0, [])),
  .inr ((0, 10), .inl (0, [])),
  .inr ((0, 20000), .inl (0, [])),
  .inr ((0, 20000), .inl (0, [])),
  .inr ((0, 4), .inl (0, [])),
  .inr ((1, 1), .inr (0, []))], 357940)
def ml_lv : List (Nat × Value) := [(4, .int 0), (3, .ref 108), (2, .ref 66), (1, .ref 0), (0, .ref 1048576)]
def ml_kb0 : mK := [((.eq, .ref mx_F, .int 0), true)]
def ml_call (kb : mK) : Nat → List Value → mW → Option (Option Value × mW) := mx_call kb mt_tab mo_ovr mo_jmp 40
def dq_s {α β : Type} (f : DecidableEq α) (g : DecidableEq β) : DecidableEq (α ⊕ β) := fun x y => match x, y with
  | .inl a, .inl b => match f a b with
    | isTrue h => isTrue (by rw [h])
    | isFalse h => isFalse (by intro q; cases q; exact h rfl)
  | .inr a, .inr b => match g a b with
    | isTrue h => isTrue (by rw [h])
    | isFalse h => isFalse (by intro q; cases q; exact h rfl)
  | .inl _, .inr _ => isFalse (by intro q; cases q)
  | .inr _, .inl _ => isFalse (by intro q; cases q)
def dq_1 : DecidableEq mI := inferInstance
def dq_2 : DecidableEq mJ := inferInstance
def dq_3 : DecidableEq (Nat × List Value) := inferInstance
def dq_4 : DecidableEq mE := dq_s dq_3 (@instDecidableEqProd _ _ inferInstance (dq_s dq_1 dq_2))
def dq_5 : DecidableEq mW := @instDecidableEqProd _ _ (@instDecidableEqList _ dq_4) inferInstance
def dq_6 : DecidableEq mS := @instDecidableEqProd _ _ inferInstance (@instDecidableEqProd _ _ inferInstance (@instDecidableEqProd _ _ inferInstance dq_5))
def dq_7 : DecidableEq (Option Value × mW) := @instDecidableEqProd _ _ inferInstance dq_5
/-- two ends of runs are the same -/
def mq (a b : Option mS) : Bool := match a, b with
  | some x, some y => @decide (x = y) (dq_6 x y)
  | _, _ => false
def mq2 (a b : Option (Option Value × mW)) : Bool := match a, b with
  | some x, some y => @decide (x = y) (dq_7 x y)
  | _, _ => false
theorem mq_eq {a b : Option mS} (h : mq a b = true) : a = b := by
  unfold mq at h
  split at h
  · rename_i x y
    rw [@of_decide_eq_true _ (dq_6 x y) h]
  · cases h
theorem mq2_eq {a b : Option (Option Value × mW)} (h : mq2 a b = true) : a = b := by
  unfold mq2 at h
  split at h
  · rename_i x y
    rw [@of_decide_eq_true _ (dq_7 x y) h]
  · cases h
set_option maxRecDepth 1000000 in
theorem ml_run0 : mx_runN ml_kb0 mt_tab (ml_call ml_kb0) none (fun _ => none) mt_L_law 13 (0, [(0, .ref 1048576)], [], ([], 0)) = some (23, ml_lv, [], ml_w1) := mq_eq (by decide +kernel)
