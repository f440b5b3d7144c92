/-! ### the law and its nine callers, as records -/
def mt_L_feed : mM := (yL_feed, cL_feed, (6, (some .int), 4, 0, 1), (1039, 1038, 0, 144),
  [(0, .aload 4), (2, .iconst 0), (3, .aload_n 0), (4, .lload_n 1), (5, .iload_n 3), (6, .invokevirtual 7), (9, .i2l), (10, .lastore), (11, .goto 11), (14, .astore 5), (16, .iconst 1), (17, .ireturn), (18, .astore 5), (20, .iconst 2), (21, .ireturn), (22, .iconst 0), (23, .ireturn)],
  [(7, 2, 98, 2, 1042)], none)
set_option maxRecDepth 100000 in
theorem mk_L_feed : (mt_L_feed.2.2.2.2.1.all (mx_rowok cL_feed) && mt_L_feed.2.2.2.2.2.1.all (mx_lkok (fun a => mt_nm[a]?) RL)) = true := by decide +kernel
theorem mw_L_feed : mx_wok (fun a => mt_tab[a]?.map (fun M => M.1)) mt_L_feed := by
  rw [mt_names]
  have h := mk_L_feed
  simp only [Bool.and_eq_true, List.all_eq_true] at h
  exact ⟨h.1, h.2, fun ci q => by cases q⟩
def hh_feed : List (Nat × Nat × Nat × Nat) := [(0, 11, 14, 13), (0, 11, 18, 15)]
theorem hw_feed : (mx_at 1039 (.codeWith yL_feed cL_feed 6 (some .int) hh_feed) && mx_at 1038 (.static yL_feed) && mx_at 144 (.initialized RL) && mx_at 1037 (.methodLink RL 52 yL_feed)) = true := by decide +kernel
def mt_L_cls : mM := (yL_cls, cL_cls, (5, (some .int), 4, 0, 1), (1136, 1135, 0, 144),
  [(0, .aload_n 3), (1, .iconst 0), (2, .aload_n 0), (3, .iload_n 1), (4, .iload_n 2), (5, .invokevirtual 17), (8, .lastore), (9, .goto 11), (12, .astore 4), (14, .iconst 1), (15, .ireturn), (16, .astore 4), (18, .iconst 2), (19, .ireturn), (20, .iconst 0), (21, .ireturn)],
  [(17, 2, 101, 2, 1138)], none)
set_option maxRecDepth 100000 in
theorem mk_L_cls : (mt_L_cls.2.2.2.2.1.all (mx_rowok cL_cls) && mt_L_cls.2.2.2.2.2.1.all (mx_lkok (fun a => mt_nm[a]?) RL)) = true := by decide +kernel
theorem mw_L_cls : mx_wok (fun a => mt_tab[a]?.map (fun M => M.1)) mt_L_cls := by
  rw [mt_names]
  have h := mk_L_cls
  simp only [Bool.and_eq_true, List.all_eq_true] at h
  exact ⟨h.1, h.2, fun ci q => by cases q⟩
def hh_cls : List (Nat × Nat × Nat × Nat) := [(0, 9, 12, 21), (0, 9, 16, 13)]
theorem hw_cls : (mx_at 1136 (.codeWith yL_cls cL_cls 5 (some .int) hh_cls) && mx_at 1135 (.static yL_cls) && mx_at 144 (.initialized RL) && mx_at 1134 (.methodLink RL 67 yL_cls)) = true := by decide +kernel
def mt_L_isAbove : mM := (yL_isAbove, cL_isAbove, (5, (some .int), 4, 0, 1), (1169, 1168, 0, 144),
  [(0, .aload_n 3), (1, .iconst 0), (2, .aload_n 0), (3, .iload_n 1), (4, .iload_n 2), (5, .invokevirtual 23), (8, .i2l), (9, .lastore), (10, .goto 7), (13, .astore 4), (15, .iconst 1), (16, .ireturn), (17, .iconst 0), (18, .ireturn)],
  [(23, 2, 102, 2, 1170)], none)
set_option maxRecDepth 100000 in
theorem mk_L_isAbove : (mt_L_isAbove.2.2.2.2.1.all (mx_rowok cL_isAbove) && mt_L_isAbove.2.2.2.2.2.1.all (mx_lkok (fun a => mt_nm[a]?) RL)) = true := by decide +kernel
theorem mw_L_isAbove : mx_wok (fun a => mt_tab[a]?.map (fun M => M.1)) mt_L_isAbove := by
  rw [mt_names]
  have h := mk_L_isAbove
  simp only [Bool.and_eq_true, List.all_eq_true] at h
  exact ⟨h.1, h.2, fun ci q => by cases q⟩
def hh_isAbove : List (Nat × Nat × Nat × Nat) := [(0, 10, 13, 21)]
theorem hw_isAbove : (mx_at 1169 (.codeWith yL_isAbove cL_isAbove 5 (some .int) hh_isAbove) && mx_at 1168 (.static yL_isAbove) && mx_at 144 (.initialized RL) && mx_at 1167 (.methodLink RL 71 yL_isAbove)) = true := by decide +kernel
def mt_L_parameter : mM := (yL_parameter, cL_parameter, (5, (some .int), 4, 0, 1), (1177, 1176, 0, 144),
  [(0, .aload_n 3), (1, .iconst 0), (2, .aload_n 0), (3, .iload_n 1), (4, .iload_n 2), (5, .invokevirtual 27), (8, .lastore), (9, .goto 11), (12, .astore 4), (14, .iconst 1), (15, .ireturn), (16, .astore 4), (18, .iconst 2), (19, .ireturn), (20, .iconst 0), (21, .ireturn)],
  [(27, 2, 103, 2, 1178)], none)
set_option maxRecDepth 100000 in
theorem mk_L_parameter : (mt_L_parameter.2.2.2.2.1.all (mx_rowok cL_parameter) && mt_L_parameter.2.2.2.2.2.1.all (mx_lkok (fun a => mt_nm[a]?) RL)) = true := by decide +kernel
theorem mw_L_parameter : mx_wok (fun a => mt_tab[a]?.map (fun M => M.1)) mt_L_parameter := by
  rw [mt_names]
  have h := mk_L_parameter
  simp only [Bool.and_eq_true, List.all_eq_true] at h
  exact ⟨h.1, h.2, fun ci q => by cases q⟩
def hh_parameter : List (Nat × Nat × Nat × Nat) := [(0, 9, 12, 21), (0, 9, 16, 13)]
theorem hw_parameter : (mx_at 1177 (.codeWith yL_parameter cL_parameter 5 (some .int) hh_parameter) && mx_at 1176 (.static yL_parameter) && mx_at 144 (.initialized RL) && mx_at 1175 (.methodLink RL 74 yL_parameter)) = true := by decide +kernel
def mt_L_way : mM := (yL_way, cL_way, (5, (some .int), 4, 0, 1), (1186, 1185, 0, 144),
  [(0, .aload_n 3), (1, .iconst 0), (2, .aload_n 0), (3, .iload_n 1), (4, .iload_n 2), (5, .invokevirtual 30), (8, .i2l), (9, .lastore), (10, .goto 7), (13, .astore 4), (15, .iconst 1), (16, .ireturn), (17, .iconst 0), (18, .ireturn)],
  [(30, 2, 104, 2, 1187)], none)
set_option maxRecDepth 100000 in
theorem mk_L_way : (mt_L_way.2.2.2.2.1.all (mx_rowok cL_way) && mt_L_way.2.2.2.2.2.1.all (mx_lkok (fun a => mt_nm[a]?) RL)) = true := by decide +kernel
theorem mw_L_way : mx_wok (fun a => mt_tab[a]?.map (fun M => M.1)) mt_L_way := by
  rw [mt_names]
  have h := mk_L_way
  simp only [Bool.and_eq_true, List.all_eq_true] at h
  exact ⟨h.1, h.2, fun ci q => by cases q⟩
def hh_way : List (Nat × Nat × Nat × Nat) := [(0, 10, 13, 21)]
theorem hw_way : (mx_at 1186 (.codeWith yL_way cL_way 5 (some .int) hh_way) && mx_at 1185 (.static yL_way) && mx_at 144 (.initialized RL) && mx_at 1184 (.methodLink RL 77 yL_way)) = true := by decide +kernel
def mt_L_ask : mM := (yL_ask, cL_ask, (4, (some .int), 3, 0, 1), (1193, 1192, 0, 144),
  [(0, .aload_n 2), (1, .iconst 0), (2, .aload_n 0), (3, .iload_n 1), (4, .invokevirtual 33), (7, .i2l), (8, .lastore), (9, .goto 6), (12, .astore_n 3), (13, .iconst 1), (14, .ireturn), (15, .iconst 0), (16, .ireturn)],
  [(33, 2, 105, 1, 1194)], none)
set_option maxRecDepth 100000 in
theorem mk_L_ask : (mt_L_ask.2.2.2.2.1.all (mx_rowok cL_ask) && mt_L_ask.2.2.2.2.2.1.all (mx_lkok (fun a => mt_nm[a]?) RL)) = true := by decide +kernel
theorem mw_L_ask : mx_wok (fun a => mt_tab[a]?.map (fun M => M.1)) mt_L_ask := by
  rw [mt_names]
  have h := mk_L_ask
  simp only [Bool.and_eq_true, List.all_eq_true] at h
  exact ⟨h.1, h.2, fun ci q => by cases q⟩
def hh_ask : List (Nat × Nat × Nat × Nat) := [(0, 9, 12, 13)]
theorem hw_ask : (mx_at 1193 (.codeWith yL_ask cL_ask 4 (some .int) hh_ask) && mx_at 1192 (.static yL_ask) && mx_at 144 (.initialized RL) && mx_at 1191 (.methodLink RL 80 yL_ask)) = true := by decide +kernel
def mt_L_told : mM := (yL_told, cL_told, (4, (some .int), 3, 0, 1), (1236, 1235, 0, 144),
  [(0, .aload_n 2), (1, .iconst 0), (2, .aload_n 0), (3, .iload_n 1), (4, .invokevirtual 37), (7, .i2l), (8, .lastore), (9, .goto 6), (12, .astore_n 3), (13, .iconst 1), (14, .ireturn), (15, .iconst 0), (16, .ireturn)],
  [(37, 2, 106, 1, 1237)], none)
set_option maxRecDepth 100000 in
theorem mk_L_told : (mt_L_told.2.2.2.2.1.all (mx_rowok cL_told) && mt_L_told.2.2.2.2.2.1.all (mx_lkok (fun a => mt_nm[a]?) RL)) = true := by decide +kernel
theorem mw_L_told : mx_wok (fun a => mt_tab[a]?.map (fun M => M.1)) mt_L_told := by
  rw [mt_names]
  have h := mk_L_told
  simp only [Bool.and_eq_true, List.all_eq_true] at h
  exact ⟨h.1, h.2, fun ci q => by cases q⟩
def hh_told : List (Nat × Nat × Nat × Nat) := [(0, 9, 12, 13)]
theorem hw_told : (mx_at 1236 (.codeWith yL_told cL_told 4 (some .int) hh_told) && mx_at 1235 (.static yL_told) && mx_at 144 (.initialized RL) && mx_at 1234 (.methodLink RL 87 yL_told)) = true := by decide +kernel
def mt_L_variable : mM := (yL_variable, cL_variable, (5, (some .int), 4, 0, 1), (1244, 1243, 0, 144),
  [(0, .aload_n 3), (1, .iconst 0), (2, .aload_n 0), (3, .iload_n 1), (4, .iload_n 2), (5, .invokevirtual 40), (8, .i2l), (9, .lastore), (10, .goto 7), (13, .astore 4), (15, .iconst 1), (16, .ireturn), (17, .iconst 0), (18, .ireturn)],
  [(40, 2, 108, 2, 1245)], none)
set_option maxRecDepth 100000 in
theorem mk_L_variable : (mt_L_variable.2.2.2.2.1.all (mx_rowok cL_variable) && mt_L_variable.2.2.2.2.2.1.all (mx_lkok (fun a => mt_nm[a]?) RL)) = true := by decide +kernel
theorem mw_L_variable : mx_wok (fun a => mt_tab[a]?.map (fun M => M.1)) mt_L_variable := by
  rw [mt_names]
  have h := mk_L_variable
  simp only [Bool.and_eq_true, List.all_eq_true] at h
  exact ⟨h.1, h.2, fun ci q => by cases q⟩
def hh_variable : List (Nat × Nat × Nat × Nat) := [(0, 10, 13, 21)]
theorem hw_variable : (mx_at 1244 (.codeWith yL_variable cL_variable 5 (some .int) hh_variable) && mx_at 1243 (.static yL_variable) && mx_at 144 (.initialized RL) && mx_at 1242 (.methodLink RL 94 yL_variable)) = true := by decide +kernel
def mt_L_written : mM := (yL_written, cL_written, (4, (some .int), 3, 0, 1), (1253, 1252, 0, 144),
  [(0, .aload_n 2), (1, .iconst 0), (2, .aload_n 0), (3, .iload_n 1), (4, .invokevirtual 43), (7, .i2l), (8, .lastore), (9, .goto 6), (12, .astore_n 3), (13, .iconst 1), (14, .ireturn), (15, .iconst 0), (16, .ireturn)],
  [(43, 2, 109, 1, 1254)], none)
set_option maxRecDepth 100000 in
theorem mk_L_written : (mt_L_written.2.2.2.2.1.all (mx_rowok cL_written) && mt_L_written.2.2.2.2.2.1.all (mx_lkok (fun a => mt_nm[a]?) RL)) = true := by decide +kernel
theorem mw_L_written : mx_wok (fun a => mt_tab[a]?.map (fun M => M.1)) mt_L_written := by
  rw [mt_names]
  have h := mk_L_written
  simp only [Bool.and_eq_true, List.all_eq_true] at h
  exact ⟨h.1, h.2, fun ci q => by cases q⟩
def hh_written : List (Nat × Nat × Nat × Nat) := [(0, 9, 12, 21)]
theorem hw_written : (mx_at 1253 (.codeWith yL_written cL_written 4 (some .int) hh_written) && mx_at 1252 (.static yL_written) && mx_at 144 (.initialized RL) && mx_at 1251 (.methodLink RL 97 yL_written)) = true := by decide +kernel
def mt_L_law : mM := (yL_law, cL_law, (8, (some .boolean), 1, 0, 1), (0, 0, 0, 144),
  [(0, .new 8), (3, .dup), (4, .invokespecial 46), (7, .astore_n 1), (8, .new 47), (11, .dup), (12, .invokespecial 49), (15, .astore_n 2), (16, .iconst 1), (17, .newarray .long), (19, .astore_n 3), (20, .iconst 0), (21, .istore 4), (23, .iload 4), (25, .aload_n 0), (26, .arraylength), (27, .iconst 4), (28, .isub), (29, .if_icmp .gt 515), (32, .aload_n 0), (33, .iload 4), (35, .iaload), (36, .bipush 15), (38, .iand), (39, .tableswitch 499 0 12 #[65, 137, 150, 163, 203, 243, 283, 323, 379, 407, 420, 460, 488]), (104, .aload_n 1), (105, .aload_n 0), (106, .iload 4), (108, .iconst 1), (109, .iadd), (110, .iaload), (111, .i2l), (112, .bipush 32), (114, .lshl), (115, .aload_n 0), (116, .iload 4), (118, .iconst 2), (119, .iadd), (120, .iaload), (121, .i2l), (122, .ldc2_w 50), (125, .land), (126, .lor), (127, .aload_n 0), (128, .iload 4), (130, .iconst 3), (131, .iadd), (132, .iaload), (133, .aload_n 3), (134, .invokestatic 52), (137, .istore 5), (139, .aload_n 2), (140, .aload_n 0), (141, .iload 4), (143, .iconst 1), (144, .iadd), (145, .iaload), (146, .i2l), (147, .bipush 32), (149, .lshl), (150, .aload_n 0), (151, .iload 4), (153, .iconst 2), (154, .iadd), (155, .iaload), (156, .i2l), (157, .ldc2_w 50), (160, .land), (161, .lor), (162, .aload_n 0), (163, .iload 4), (165, .iconst 3), (166, .iadd), (167, .iaload), (168, .invokevirtual 57), (171, .istore 6), (173, .goto 365), (176, .aload_n 1), (177, .invokevirtual 58), (180, .pop), (181, .aload_n 2), (182, .invokevirtual 62), (185, .pop), (186, .goto 352), (189, .aload_n 1), (190, .invokevirtual 63), (193, .pop), (194, .aload_n 2), (195, .invokevirtual 66), (198, .pop), (199, .goto 339), (202, .aload_n 1), (203, .aload_n 0), (204, .iload 4), (206, .iconst 1), (207, .iadd), (208, .iaload), (209, .aload_n 0), (210, .iload 4), (212, .iconst 2), (213, .iadd), (214, .iaload), (215, .aload_n 3), (216, .invokestatic 67), (219, .istore 5), (221, .aload_n 2), (222, .aload_n 0), (223, .iload 4), (225, .iconst 1), (226, .iadd), (227, .iaload), (228, .aload_n 0), (229, .iload 4), (231, .iconst 2), (232, .iadd), (233, .iaload), (234, .invokevirtual 70), (237, .lstore 6), (239, .goto 299), (242, .aload_n 1), (243, .aload_n 0), (244, .iload 4), (246, .iconst 1), (247, .iadd), (248, .iaload), (249, .aload_n 0), (250, .iload 4), (252, .iconst 2), (253, .iadd), (254, .iaload), (255, .aload_n 3), (256, .invokestatic 71), (259, .istore 5), (261, .aload_n 2), (262, .aload_n 0), (263, .iload 4), (265, .iconst 1), (266, .iadd), (267, .iaload), (268, .aload_n 0), (269, .iload 4), (271, .iconst 2), (272, .iadd), (273, .iaload), (274, .invokevirtual 73), (277, .istore 6), (279, .goto 259), (282, .aload_n 1), (283, .aload_n 0), (284, .iload 4), (286, .iconst 1), (287, .iadd), (288, .iaload), (289, .aload_n 0), (290, .iload 4), (292, .iconst 2), (293, .iadd), (294, .iaload), (295, .aload_n 3), (296, .invokestatic 74), (299, .istore 5), (301, .aload_n 2), (302, .aload_n 0), (303, .iload 4), (305, .iconst 1), (306, .iadd), (307, .iaload), (308, .aload_n 0), (309, .iload 4), (311, .iconst 2), (312, .iadd), (313, .iaload), (314, .invokevirtual 76), (317, .lstore 6), (319, .goto 219), (322, .aload_n 1), (323, .aload_n 0), (324, .iload 4), (326, .iconst 1), (327, .iadd), (328, .iaload), (329, .aload_n 0), (330, .iload 4), (332, .iconst 2), (333, .iadd), (334, .iaload), (335, .aload_n 3), (336, .invokestatic 77), (339, .istore 5), (341, .aload_n 2), (342, .aload_n 0), (343, .iload 4), (345, .iconst 1), (346, .iadd), (347, .iaload), (348, .aload_n 0), (349, .iload 4), (351, .iconst 2), (352, .iadd), (353, .iaload), (354, .invokevirtual 79), (357, .istore 6), (359, .goto 179), (362, .aload_n 1), (363, .aload_n 0), (364, .iload 4), (366, .iconst 1), (367, .iadd), (368, .iaload), (369, .aload_n 3), (370, .invokestatic 80), (373, .istore 5), (375, .aload_n 2), (376, .aload_n 0), (377, .iload 4), (379, .iconst 1), (380, .iadd), (381, .iaload), (382, .invokevirtual 83), (385, .istore 6), (387, .aload_n 2), (388, .invokevirtual 84), (391, .iload 5), (393, .if_icmp .eq 5), (396, .iconst 0), (397, .ireturn), (398, .iload 5), (400, .ifCond .ne 15), (403, .aload_n 3), (404, .iconst 0), (405, .laload), (406, .iload 6), (408, .i2l), (409, .lcmp), (410, .ifCond .eq 5), (413, .iconst 0), (414, .ireturn), (415, .goto 123), (418, .aload_n 1), (419, .aload_n 0), (420, .iload 4), (422, .iconst 1), (423, .iadd), (424, .iaload), (425, .aload_n 3), (426, .invokestatic 87), (429, .istore 5), (431, .aload_n 2), (432, .aload_n 0), (433, .iload 4), (435, .iconst 1), (436, .iadd), (437, .iaload), (438, .invokevirtual 89), (441, .istore 6), (443, .goto 95), (446, .aload_n 1), (447, .invokevirtual 90), (450, .pop), (451, .aload_n 2), (452, .invokevirtual 93), (455, .pop), (456, .goto 82), (459, .aload_n 1), (460, .aload_n 0), (461, .iload 4), (463, .iconst 1), (464, .iadd), (465, .iaload), (466, .aload_n 0), (467, .iload 4), (469, .iconst 2), (470, .iadd), (471, .iaload), (472, .aload_n 3), (473, .invokestatic 94), (476, .istore 5), (478, .aload_n 2), (479, .aload_n 0), (480, .iload 4), (482, .iconst 1), (483, .iadd), (484, .iaload), (485, .aload_n 0), (486, .iload 4), (488, .iconst 2), (489, .iadd), (490, .iaload), (491, .invokevirtual 96), (494, .istore 6), (496, .goto 42), (499, .aload_n 1), (500, .aload_n 0), (501, .iload 4), (503, .iconst 1), (504, .iadd), (505, .iaload), (506, .aload_n 3), (507, .invokestatic 97), (510, .istore 5), (512, .aload_n 2), (513, .aload_n 0), (514, .iload 4), (516, .iconst 1), (517, .iadd), (518, .iaload), (519, .invokevirtual 99), (522, .istore 6), (524, .goto 14), (527, .aload_n 1), (528, .invokevirtual 100), (531, .aload_n 2), (532, .invokevirtual 103), (535, .goto 3), (538, .iinc 4 4), (541, .goto (-518)), (544, .iconst 1), (545, .ireturn)],
  [(8, 9, 8, 0, 169), (46, 6, 97, 0, 171), (47, 9, 9, 0, 1259), (49, 6, 117, 0, 1261), (50, 11, 0, 1800, 4294967295), (57, 2, 180, 2, 1751), (58, 2, 99, 0, 635), (62, 2, 149, 0, 1526), (63, 2, 100, 0, 936), (66, 2, 181, 0, 1755), (70, 2, 183, 2, 1759), (73, 2, 185, 2, 1772), (76, 2, 187, 2, 1776), (79, 2, 188, 2, 1784), (83, 2, 172, 1, 1655), (84, 2, 191, 0, 1796), (89, 2, 189, 1, 1788), (90, 2, 107, 0, 940), (93, 2, 173, 0, 1723), (96, 2, 178, 2, 1743), (99, 2, 179, 1, 1747), (100, 2, 110, 0, 1032), (103, 2, 190, 0, 1792)], none)
set_option maxRecDepth 100000 in
theorem mk_L_law : (mt_L_law.2.2.2.2.1.all (mx_rowok cL_law) && mt_L_law.2.2.2.2.2.1.all (mx_lkok (fun a => mt_nm[a]?) RL)) = true := by decide +kernel
theorem mw_L_law : mx_wok (fun a => mt_tab[a]?.map (fun M => M.1)) mt_L_law := by
  rw [mt_names]
  have h := mk_L_law
  simp only [Bool.and_eq_true, List.all_eq_true] at h
  exact ⟨h.1, h.2, fun ci q => by cases q⟩
def ml_w1 : mW := ([.inl (8, [.ref 1, .ref 6, .ref 10, .ref 14, .ref 32, .ref 50, .ref 52, .int 0]),
  .inl (5, [.ref 2, .ref 3, .ref 4, .ref 5, .int 0, .int 0, .int 0, .int 0, .long 0]),
  .inr ((0, 800), .inl (0, [])),
  .inr ((0, 801), .inl (0, [])),
  .inr ((0, 801), .inl (0, [])),
  .inr ((1, 801), .inr (0, [])),
  .inl (7, [.ref 7, .ref 8, .ref 9, .int 0]),
  .inr ((0, 6400), .inl (0, [])),
  .inr ((0, 6400), .inl (0, [])),
  .inr ((0, 80), .inl (0, [])),
  .inl (2, [.ref 11, .ref 12, .ref 13, .int 0, .int 0]),
  .inr ((0, 1000), .inl (0, [])),
  .inr ((0, 1001), .inl (0, [])),
  .inr ((0, 1001), .inl (0, [])),
  .inl (4, [.ref 15, .ref 16, .ref 17, .ref 18, .ref 19, .ref 20, .ref 21, .ref 22, .ref 23, .ref 24, .ref 25, .ref 26, .int 1, .int 0, .int 0]),
  .inr ((1, 21), .inr (0, [(0, 4288121)])),
  .inr ((0, 21), .inl (0, [(0, 0)])),
  .inr ((0, 21), .inl (0, [(0, 0)])),
  .inr ((0, 21), .inl (0, [(0, 0)])),
  .inr ((0, 84), .inl (0, [])),
  .inr ((1, 80), .inr (0, [])),
  .inr ((0, 80), .inl (0, [])),
  .inr ((0, 80), .inl (0, [])),
  .inr ((0, 160), .inl (0, [])),
  .inr ((0, 160), .inl (0, [])),
  .inr ((0, 300), .inl (0, [])),
  .inl (1, [.ref 27, .ref 28, .ref 29, .ref 30, .int 0, .ref 31, .int 1]),
  .inr ((0, 441), .inl (0, [(0, 0)])),
  .inr ((0, 441), .inl (0, [(0, 1)])),
  .inr ((0, 4), .inl (0, [])),
  .inr ((0, 4), .inl (0, [])),
  .inr ((0, 1024), .inl (0, [(0, 0)])),
  .inl (4, [.ref 33, .ref 34, .ref 35, .ref 36, .ref 37, .ref 38, .ref 39, .ref 40, .ref 41, .ref 42, .ref 43, .ref 44, .int 1, .int 0, .int 0]),
  .inr ((1, 21), .inr (0, [(0, 4288121)])),
  .inr ((0, 21), .inl (0, [(0, 0)])),
  .inr ((0, 21), .inl (0, [(0, 0)])),
  .inr ((0, 21), .inl (0, [(0, 0)])),
  .inr ((0, 84), .inl (0, [])),
  .inr ((1, 80), .inr (0, [])),
  .inr ((0, 80), .inl (0, [])),
  .inr ((0, 80), .inl (0, [])),
  .inr ((0, 160), .inl (0, [])),
  .inr ((0, 160), .inl (0, [])),
  .inr ((0, 300), .inl (0, [])),
  .inl (1, [.ref 45, .ref 46, .ref 47, .ref 48, .int 0, .ref 49, .int 1]),
  .inr ((0, 441), .inl (0, [(0, 0)])),
  .inr ((0, 441), .inl (0, [(0, 1)])),
  .inr ((0, 4), .inl (0, [])),
  .inr ((0, 4), .inl (0, [])),
  .inr ((0, 1024), .inl (0, [(0, 0)])),
  .inl (3, [.ref 1, .ref 51, .ref 14, .ref 51, .int 0, .int 0, .int 0, .int 0, .int 0, .int 0, .int 0]),
  .inr ((0, 300), .inl (0, [])),
  .inl (0, [.ref 59, .ref 53, .ref 54, .ref 55, .ref 56, .ref 57, .ref 58, .ref 14, .int 0, .int 0, .int 0, .int 0, .int 0, .int 0, .int 0]),
  .inr ((0, 300), .inl (0, [])),
  .inr ((0, 900), .inl (0, [])),
  .inr ((0, 300), .inl (0, [])),
  .inr ((0, 4), .inl (0, [])),
  .inr ((0, 8), .inl (0, [])),
  .inr ((0, 164), .inl (0, [])),
  .inl (6, [.ref 60, .ref 61, .ref 62, .ref 63, .ref 64, .ref 65, .ref 14, .int 1, .int 0]),
  .inr ((0, 7000), .inl (0, [(0, 0)])),
  .inr ((0, 7000), .inl (0, [(0, 0)])),
  .inr ((0, 7000), .inl (0, [(0, (-1))])),
  .inr ((0, 7000), .inl (0, [])),
  .inr ((0, 2048), .inl ((-1), [(0, 0)])),
  .inr ((0, 300), .inl (0, [])),
  .inl (9, [.ref 67, .ref 68, .ref 69, .ref 70, .ref 71, .ref 72, .ref 73, .int 0, .int 1, .ref 74, .ref 75, .ref 76, .ref 77, .ref 78, .ref 79, .ref 80, .ref 81, .ref 82, .ref 83, .ref 84, .int 1, .int 0, .int 0, .int 1, .int 0, .int 0, .int 0, .int 0, .ref 85, .int 0, .int 0, .int 0, .int 0, .int 0, .int 0, .int 0, .int 0, .int 0, .int 0, .ref 86, .ref 87, .int 0, .ref 88, .ref 89, .ref 90, .int 0, .int 0, .int 0, .int 0, .ref 91, .ref 92, .ref 93, .ref 94, .ref 95, .int 0, .ref 96, .int 0, .int 0, .ref 97, .ref 98, .int 0, .ref 99, .ref 100, .ref 101, .ref 102, .ref 103, .ref 104, .ref 105, .int 0, .ref 106, .int 0, .int 0, .int 0, .ref 107, .int 0, .int 0, .int 0]),
  .inr ((0, 20000), .inl (0, [(0, 0)])),
  .inr ((0, 20000), .inl (0, [(0, 0)])),
  .inr ((0, 20000), .inl (0, [(0, 0)])),
  .inr ((0, 80000), .inl (0, [])),
  .inr ((0, 20000), .inl (0, [(0, 1)])),
  .inr ((0, 20000), .inl (0, [(0, (-1))])),
  .inr ((0, 2048), .inl ((-1), [(0, 0)])),
  .inr ((0, 4), .inl (0, [])),
  .inr ((1, 42), .inr (0, [(0, 4288121)])),
  .inr ((0, 42), .inl (0, [(0, 0)])),
  .inr ((0, 42), .inl (0, [(0, 0)])),
  .inr ((0, 168), .inl (0, [])),
  .inr ((0, 42), .inl (0, [(0, 0)])),
  .inr ((0, 882), .inl (0, [(0, 0), (20, (-1)), (19, (-1)), (18, (-1)), (17, (-1)), (16, (-1)), (15, (-1)), (14, (-1)), (13, (-1)), (12, (-1)), (11, (-1)), (10, (-1)), (9, (-1)), (8, (-1)), (7, (-1)), (6, (-1)), (5, (-1)), (4, (-1)), (3, (-1)), (2, (-1)), (1, (-1)), (0, (-1))])),
  .inr ((1, 160), .inr (0, [])),
  .inr ((0, 160), .inl (0, [])),
  .inr ((0, 320), .inl (0, [])),
  .inr ((0, 160), .inl (0, [])),
  .inr ((0, 800), .inl (0, [])),
  .inr ((0, 6400), .inl (0, [])),
  .inr ((2, 6400), .inl (0, [])),
  .inr ((0, 900), .inl (0, [])),
  .inr ((0, 300), .inl (0, [])),
  .inr ((0, 300), .inl (0, [])),
  .inr ((0, 42), .inl (0, [])),
  .inr ((0, 42), .inl (0, [])),
  .inr ((0, 42), .inl (0, [])),
  .inr ((0, 42), .inl (0, [])),
  .inr ((0, 42), .inl (0, [])),
  .inr ((3, 1000), .inl (0, [])),
  .inr ((0, 20000), .inl (0, [])),
  .inr ((0, 20000), .inl (0, [])),
  .inr ((0, 20000), .inl (0, [])),
  .inr ((2, 10), .inl (0, [])),
  .inr ((0, 10), .inl (0, [])),
  .inr ((0, 10), .inl (0, [])),
  .inr ((0, 40), .inl (0, [])),
  .inr ((0, 10), .inl (0, [])),
  .inr ((0, 20000), .inl (0, [])),
  .inr ((0, 20000), .inl (0, [])),
  .inr ((0, 4), .inl (0, [])),
  .inr ((1, 1), .inr (0, []))], 357940)
def ml_lv : List (Nat × Value) := [(4, .int 0), (3, .ref 108), (2, .ref 66), (1, .ref 0), (0, .ref 1048576)]
def ml_kb0 : mK := [((.eq, .ref mx_F, .int 0), true)]
def ml_call (kb : mK) : Nat → List Value → mW → Option (Option Value × mW) := mx_call kb mt_tab mo_ovr mo_jmp 40
def dq_s {α β : Type} (f : DecidableEq α) (g : DecidableEq β) : DecidableEq (α ⊕ β) := fun x y => match x, y with
  | .inl a, .inl b => match f a b with
    | isTrue h => isTrue (by rw [h])
    | isFalse h => isFalse (by intro q; cases q; exact h rfl)
  | .inr a, .inr b => match g a b with
    | isTrue h => isTrue (by rw [h])
    | isFalse h => isFalse (by intro q; cases q; exact h rfl)
  | .inl _, .inr _ => isFalse (by intro q; cases q)
  | .inr _, .inl _ => isFalse (by intro q; cases q)
def dq_1 : DecidableEq mI := inferInstance
def dq_2 : DecidableEq mJ := inferInstance
def dq_3 : DecidableEq (Nat × List Value) := inferInstance
def dq_4 : DecidableEq mE := dq_s dq_3 (@instDecidableEqProd _ _ inferInstance (dq_s dq_1 dq_2))
def dq_5 : DecidableEq mW := @instDecidableEqProd _ _ (@instDecidableEqList _ dq_4) inferInstance
def dq_6 : DecidableEq mS := @instDecidableEqProd _ _ inferInstance (@instDecidableEqProd _ _ inferInstance (@instDecidableEqProd _ _ inferInstance dq_5))
/-- two ends of runs are the same -/
def mq (a b : Option mS) : Bool := match a, b with
  | some x, some y => @decide (x = y) (dq_6 x y)
  | _, _ => false
theorem mq_eq {a b : Option mS} (h : mq a b = true) : a = b := by
  unfold mq at h
  split at h
  · rename_i x y
    rw [@of_decide_eq_true _ (dq_6 x y) h]
  · cases h
set_option maxRecDepth 1000000 in
theorem ml_run0 : mx_runN ml_kb0 mt_tab (ml_call ml_kb0) none (fun _ => none) mt_L_law 13 (0, [(0, .ref 1048576)], [], ([], 0)) = some (23, ml_lv, [], ml_w1) := mq_eq (by decide +kernel)
