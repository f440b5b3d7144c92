/-! ### methods, part 3 -/
def mt_X5_init : mM := (yX5_init, cX5_init, (1, none, 0, 5, 2), (181, 180, 0, 146),
  [(0, .aload_n 0), (1, .invokespecial 3), (4, .aload_n 0), (5, .sipush 800), (8, .newarray .int), (10, .putfield 9), (13, .aload_n 0), (14, .sipush 801), (17, .newarray .int), (19, .putfield 15), (22, .aload_n 0), (23, .sipush 801), (26, .newarray .int), (28, .putfield 18), (31, .aload_n 0), (32, .sipush 801), (35, .newarray .long), (37, .putfield 21), (40, .return_)],
  [(3, 8, 0, 0, 182), (9, 0, 5, 0, 183), (15, 0, 5, 1, 184), (18, 0, 5, 2, 185), (21, 0, 5, 3, 186)], some 5)
set_option maxRecDepth 100000 in
theorem mk_X5_init : mx_mok (fun a => mt_nm[a]?) mt_X5_init = true := by decide +kernel
def mt_X5_append : mM := (yX5_append, cX5_append, (5, none, 2, 5, 0), (1132, 1131, 76, 146),
  [(0, .iload_n 3), (1, .iconst 1), (2, .isub), (3, .istore 4), (5, .iload 4), (7, .ifCond .lt 42), (10, .aload_n 0), (11, .getfield 9), (14, .aload_n 0), (15, .getfield 25), (18, .lload_n 1), (19, .bipush 8), (21, .iload 4), (23, .imul), (24, .lushr), (25, .l2i), (26, .sipush 255), (29, .iand), (30, .invokestatic 29), (33, .aload_n 0), (34, .dup), (35, .getfield 25), (38, .iconst 1), (39, .iadd), (40, .putfield 25), (43, .iinc 4 (-1)), (46, .goto (-41)), (49, .return_)],
  [(9, 0, 5, 0, 183), (25, 0, 5, 4, 187), (29, 5, 113, 3, 1133)], none)
set_option maxRecDepth 100000 in
theorem mk_X5_append : mx_mok (fun a => mt_nm[a]?) mt_X5_append = true := by decide +kernel
def mt_X5_cut : mM := (yX5_cut, cX5_cut, (5, none, 0, 5, 0), (651, 650, 17, 146),
  [(0, .iconst 0), (1, .istore_n 1), (2, .iconst 0), (3, .istore_n 2), (4, .iload_n 2), (5, .aload_n 0), (6, .getfield 25), (9, .if_icmp .ge 110), (12, .iload_n 2), (13, .sipush 800), (16, .if_icmp .ge 103), (19, .iload_n 1), (20, .sipush 800), (23, .if_icmp .ge 96), (26, .aload_n 0), (27, .getfield 9), (30, .iload_n 2), (31, .iaload), (32, .istore_n 3), (33, .iconst 1), (34, .istore 4), (36, .iload_n 3), (37, .bipush 32), (39, .if_icmp .eq 72), (42, .iload_n 3), (43, .bipush 10), (45, .if_icmp .eq 66), (48, .iconst 1), (49, .aload_n 0), (50, .iload_n 2), (51, .invokevirtual 33), (54, .invokestatic 37), (57, .istore 4), (59, .aload_n 0), (60, .getfield 18), (63, .iload_n 1), (64, .iload_n 2), (65, .iastore), (66, .aload_n 0), (67, .getfield 21), (70, .iload_n 1), (71, .iload 4), (73, .bipush 8), (75, .if_icmp .gt 13), (78, .aload_n 0), (79, .iload_n 2), (80, .iload 4), (82, .invokevirtual 43), (85, .goto 4), (88, .lconst 0), (89, .lastore), (90, .aload_n 0), (91, .getfield 15), (94, .iload_n 1), (95, .iload_n 3), (96, .iload 4), (98, .aload_n 0), (99, .getfield 21), (102, .iload_n 1), (103, .laload), (104, .invokestatic 47), (107, .iastore), (108, .iinc 1 1), (111, .iload_n 2), (112, .iload 4), (114, .iadd), (115, .istore_n 2), (116, .goto (-112)), (119, .aload_n 0), (120, .getfield 18), (123, .iload_n 1), (124, .aload_n 0), (125, .getfield 25), (128, .iastore), (129, .aload_n 0), (130, .getfield 21), (133, .iload_n 1), (134, .lconst 0), (135, .lastore), (136, .aload_n 0), (137, .getfield 15), (140, .iload_n 1), (141, .iconst 0), (142, .iastore), (143, .aload_n 0), (144, .iconst 0), (145, .putfield 25), (148, .aload_n 0), (149, .iconst (-1)), (150, .putfield 51), (153, .aload_n 0), (154, .iconst 1), (155, .putfield 54), (158, .aload_n 0), (159, .invokevirtual 57), (162, .return_)],
  [(9, 0, 5, 0, 183), (15, 0, 5, 1, 184), (18, 0, 5, 2, 185), (21, 0, 5, 3, 186), (25, 0, 5, 4, 187), (33, 2, 73, 1, 652), (37, 4, 193, 2, 663), (43, 2, 74, 2, 664), (47, 4, 75, 3, 668), (51, 0, 5, 5, 189), (54, 0, 5, 6, 191), (57, 2, 79, 0, 757)], none)
set_option maxRecDepth 100000 in
theorem mk_X5_cut : mx_mok (fun a => mt_nm[a]?) mt_X5_cut = true := by decide +kernel
def mt_X5_nameSize : mM := (yX5_nameSize, cX5_nameSize, (3, (some .int), 1, 5, 0), (655, 654, 18, 146),
  [(0, .iload_n 1), (1, .aload_n 0), (2, .getfield 25), (5, .if_icmp .ge 17), (8, .aload_n 0), (9, .getfield 9), (12, .iload_n 1), (13, .invokestatic 60), (16, .invokestatic 64), (19, .ifCond .ne 5), (22, .iconst 0), (23, .ireturn), (24, .iload_n 1), (25, .iconst 1), (26, .iadd), (27, .istore_n 2), (28, .iload_n 2), (29, .aload_n 0), (30, .getfield 25), (33, .if_icmp .ge 23), (36, .aload_n 0), (37, .getfield 9), (40, .iload_n 2), (41, .invokestatic 60), (44, .invokestatic 68), (47, .ifCond .eq 9), (50, .iinc 2 1), (53, .goto (-25)), (56, .iload_n 2), (57, .iload_n 1), (58, .isub), (59, .ireturn)],
  [(9, 0, 5, 0, 183), (25, 0, 5, 4, 187), (60, 5, 111, 2, 656), (64, 4, 76, 1, 657), (68, 4, 77, 1, 660)], none)
set_option maxRecDepth 100000 in
theorem mk_X5_nameSize : mx_mok (fun a => mt_nm[a]?) mt_X5_nameSize = true := by decide +kernel
def mt_X5_nameOf : mM := (yX5_nameOf, cX5_nameOf, (6, (some .long), 2, 5, 0), (667, 666, 19, 146),
  [(0, .lconst 0), (1, .lstore_n 3), (2, .iload_n 1), (3, .istore 5), (5, .iload 5), (7, .iload_n 1), (8, .iload_n 2), (9, .iadd), (10, .if_icmp .ge 25), (13, .lload_n 3), (14, .bipush 8), (16, .lshl), (17, .aload_n 0), (18, .getfield 9), (21, .iload 5), (23, .invokestatic 60), (26, .i2l), (27, .lor), (28, .lstore_n 3), (29, .iinc 5 1), (32, .goto (-27)), (35, .lload_n 3), (36, .lreturn)],
  [(9, 0, 5, 0, 183), (60, 5, 111, 2, 656)], none)
set_option maxRecDepth 100000 in
theorem mk_X5_nameOf : mx_mok (fun a => mt_nm[a]?) mt_X5_nameOf = true := by decide +kernel
def mt_X5_kindOf : mM := (yX5_kindOf, cX5_kindOf, (4, (some .int), 3, 5, 1), (670, 669, 0, 146),
  [(0, .iload_n 0), (1, .invokestatic 64), (4, .ifCond .ne 19), (7, .ldc 71), (9, .iload_n 0), (10, .i2c), (11, .invokevirtual 73), (14, .ifCond .lt 7), (17, .iload_n 0), (18, .goto 4), (21, .iconst 1), (22, .ireturn), (23, .iload_n 1), (24, .bipush 8), (26, .if_icmp .le 5), (29, .iconst 1), (30, .ireturn), (31, .lload_n 2), (32, .ldc2_w 78), (35, .lcmp), (36, .ifCond .ne 5), (39, .iconst 3), (40, .ireturn), (41, .lload_n 2), (42, .ldc2_w 80), (45, .lcmp), (46, .ifCond .ne 5), (49, .iconst 4), (50, .ireturn), (51, .lload_n 2), (52, .ldc2_w 82), (55, .lcmp), (56, .ifCond .ne 7), (59, .iconst 5), (60, .goto 4), (63, .iconst 2), (64, .ireturn)],
  [(64, 4, 76, 1, 657), (78, 11, 0, 754, 26990), (80, 11, 0, 755, 2003399784), (82, 11, 0, 756, 418263299685)], none)
set_option maxRecDepth 100000 in
theorem mk_X5_kindOf : mx_mok (fun a => mt_nm[a]?) mt_X5_kindOf = true := by decide +kernel
def mt_X5_isLetter : mM := (yX5_isLetter, cX5_isLetter, (1, (some .boolean), 1, 5, 1), (659, 658, 0, 146),
  [(0, .iload_n 0), (1, .bipush 65), (3, .if_icmp .lt 9), (6, .iload_n 0), (7, .bipush 90), (9, .if_icmp .le 15), (12, .iload_n 0), (13, .bipush 97), (15, .if_icmp .lt 13), (18, .iload_n 0), (19, .bipush 122), (21, .if_icmp .gt 7), (24, .iconst 1), (25, .goto 4), (28, .iconst 0), (29, .ireturn)],
  [], none)
set_option maxRecDepth 100000 in
theorem mk_X5_isLetter : mx_mok (fun a => mt_nm[a]?) mt_X5_isLetter = true := by decide +kernel
def mt_X5_isNameByte : mM := (yX5_isNameByte, cX5_isNameByte, (1, (some .boolean), 1, 5, 1), (662, 661, 0, 146),
  [(0, .iload_n 0), (1, .invokestatic 64), (4, .ifCond .ne 15), (7, .iload_n 0), (8, .bipush 48), (10, .if_icmp .lt 13), (13, .iload_n 0), (14, .bipush 57), (16, .if_icmp .gt 7), (19, .iconst 1), (20, .goto 4), (23, .iconst 0), (24, .ireturn)],
  [(64, 4, 76, 1, 657)], none)
set_option maxRecDepth 100000 in
theorem mk_X5_isNameByte : mx_mok (fun a => mt_nm[a]?) mt_X5_isNameByte = true := by decide +kernel
def mt_X5_opensArgs : mM := (yX5_opensArgs, cX5_opensArgs, (1, (some .boolean), 0, 5, 0), (818, 817, 32, 146),
  [(0, .aload_n 0), (1, .getfield 54), (4, .bipush 60), (6, .if_icmp .ne 25), (9, .aload_n 0), (10, .getfield 15), (13, .aload_n 0), (14, .getfield 51), (17, .iconst 1), (18, .iadd), (19, .invokestatic 60), (22, .bipush 61), (24, .if_icmp .eq 7), (27, .iconst 1), (28, .goto 4), (31, .iconst 0), (32, .ireturn)],
  [(15, 0, 5, 1, 184), (51, 0, 5, 5, 189), (54, 0, 5, 6, 191), (60, 5, 111, 2, 656)], none)
set_option maxRecDepth 100000 in
theorem mk_X5_opensArgs : mx_mok (fun a => mt_nm[a]?) mt_X5_opensArgs = true := by decide +kernel
def mt_X5_step : mM := (yX5_step, cX5_step, (2, none, 0, 5, 0), (760, 759, 20, 146),
  [(0, .aload_n 0), (1, .getfield 51), (4, .iconst 1), (5, .iadd), (6, .istore_n 1), (7, .aload_n 0), (8, .getfield 54), (11, .ifCond .eq 49), (14, .iload_n 1), (15, .ifCond .lt 45), (18, .iload_n 1), (19, .sipush 800), (22, .if_icmp .gt 38), (25, .aload_n 0), (26, .iload_n 1), (27, .putfield 51), (30, .aload_n 0), (31, .aload_n 0), (32, .getfield 15), (35, .iload_n 1), (36, .iaload), (37, .putfield 54), (40, .aload_n 0), (41, .aload_n 0), (42, .getfield 18), (45, .iload_n 1), (46, .iaload), (47, .putfield 84), (50, .aload_n 0), (51, .aload_n 0), (52, .getfield 21), (55, .iload_n 1), (56, .laload), (57, .putfield 87), (60, .return_)],
  [(15, 0, 5, 1, 184), (18, 0, 5, 2, 185), (21, 0, 5, 3, 186), (51, 0, 5, 5, 189), (54, 0, 5, 6, 191), (84, 0, 5, 7, 192), (87, 0, 5, 8, 195)], none)
set_option maxRecDepth 100000 in
theorem mk_X5_step : mx_mok (fun a => mt_nm[a]?) mt_X5_step = true := by decide +kernel
def mt_X6_init : mM := (yX6_init, cX6_init, (2, none, 1, 6, 2), (480, 479, 0, 156),
  [(0, .aload_n 0), (1, .invokespecial 3), (4, .aload_n 0), (5, .sipush 7000), (8, .newarray .int), (10, .putfield 9), (13, .aload_n 0), (14, .sipush 7000), (17, .newarray .int), (19, .putfield 15), (22, .aload_n 0), (23, .sipush 7000), (26, .newarray .int), (28, .putfield 18), (31, .aload_n 0), (32, .sipush 7000), (35, .newarray .int), (37, .putfield 21), (40, .aload_n 0), (41, .sipush 2048), (44, .newarray .int), (46, .putfield 24), (49, .aload_n 0), (50, .sipush 300), (53, .newarray .int), (55, .putfield 27), (58, .aload_n 0), (59, .aload_n 1), (60, .putfield 30), (63, .return_)],
  [(3, 8, 0, 0, 481), (9, 0, 6, 0, 482), (15, 0, 6, 1, 483), (18, 0, 6, 2, 484), (21, 0, 6, 3, 485), (24, 0, 6, 4, 486), (27, 0, 6, 5, 487), (30, 0, 6, 6, 488)], some 6)
set_option maxRecDepth 100000 in
theorem mk_X6_init : mx_mok (fun a => mt_nm[a]?) mt_X6_init = true := by decide +kernel
def mt_X6_startOver : mM := (yX6_startOver, cX6_startOver, (2, none, 1, 6, 0), (570, 569, 7, 156),
  [(0, .aload_n 0), (1, .aload_n 1), (2, .putfield 30), (5, .aload_n 0), (6, .iconst 0), (7, .putfield 34), (10, .aload_n 0), (11, .iconst 0), (12, .putfield 38), (15, .aload_n 0), (16, .getfield 24), (19, .iconst (-1)), (20, .invokestatic 41), (23, .return_)],
  [(24, 0, 6, 4, 486), (30, 0, 6, 6, 488), (34, 0, 6, 7, 489), (38, 0, 6, 8, 490), (41, 4, 192, 2, 571)], none)
set_option maxRecDepth 100000 in
theorem mk_X6_startOver : mx_mok (fun a => mt_nm[a]?) mt_X6_startOver = true := by decide +kernel
def mt_X6_head : mM := (yX6_head, cX6_head, (2, (some .int), 1, 6, 0), (960, 959, 60, 156),
  [(0, .iload_n 1), (1, .aload_n 0), (2, .getfield 34), (5, .if_icmp .ge 14), (8, .aload_n 0), (9, .getfield 9), (12, .iload_n 1), (13, .invokestatic 47), (16, .goto 4), (19, .iconst (-1)), (20, .ireturn)],
  [(9, 0, 6, 0, 482), (34, 0, 6, 7, 489), (47, 5, 111, 2, 584)], none)
set_option maxRecDepth 100000 in
theorem mk_X6_head : mx_mok (fun a => mt_nm[a]?) mt_X6_head = true := by decide +kernel
def mt_X6_part : mM := (yX6_part, cX6_part, (4, (some .int), 2, 6, 0), (975, 974, 63, 156),
  [(0, .iload_n 1), (1, .aload_n 0), (2, .getfield 34), (5, .if_icmp .ge 14), (8, .aload_n 0), (9, .getfield 15), (12, .iload_n 1), (13, .invokestatic 47), (16, .goto 4), (19, .iconst (-1)), (20, .istore_n 3), (21, .iload_n 3), (22, .ifCond .lt 30), (25, .iload_n 2), (26, .ifCond .lt 26), (29, .iload_n 3), (30, .iload_n 2), (31, .iadd), (32, .aload_n 0), (33, .getfield 38), (36, .if_icmp .ge 16), (39, .aload_n 0), (40, .getfield 21), (43, .iload_n 3), (44, .iload_n 2), (45, .iadd), (46, .invokestatic 47), (49, .goto 4), (52, .iconst (-1)), (53, .ireturn)],
  [(15, 0, 6, 1, 483), (21, 0, 6, 3, 485), (34, 0, 6, 7, 489), (38, 0, 6, 8, 490), (47, 5, 111, 2, 584)], none)
set_option maxRecDepth 100000 in
theorem mk_X6_part : mx_mok (fun a => mt_nm[a]?) mt_X6_part = true := by decide +kernel
def mt_X6_partsOf : mM := (yX6_partsOf, cX6_partsOf, (2, (some .int), 1, 6, 0), (970, 969, 62, 156),
  [(0, .aload_n 0), (1, .getfield 30), (4, .aload_n 0), (5, .iload_n 1), (6, .invokevirtual 51), (9, .invokevirtual 55), (12, .ireturn)],
  [(30, 0, 6, 6, 488), (51, 2, 82, 1, 971), (55, 3, 63, 1, 580)], none)
set_option maxRecDepth 100000 in
theorem mk_X6_partsOf : mx_mok (fun a => mt_nm[a]?) mt_X6_partsOf = true := by decide +kernel
def mt_X6_leaf : mM := (yX6_leaf, cX6_leaf, (2, (some .int), 1, 6, 0), (575, 574, 8, 156),
  [(0, .aload_n 0), (1, .iload_n 1), (2, .sipush 300), (5, .invokevirtual 60), (8, .ireturn)],
  [(60, 2, 87, 2, 576)], none)
set_option maxRecDepth 100000 in
theorem mk_X6_leaf : mx_mok (fun a => mt_nm[a]?) mt_X6_leaf = true := by decide +kernel
def mt_X6_put : mM := (yX6_put, cX6_put, (11, (some .int), 6, 6, 0), (606, 605, 14, 156),
  [(0, .sipush 300), (3, .istore 7), (5, .iload_n 2), (6, .iload_n 3), (7, .iadd), (8, .iconst 1), (9, .isub), (10, .istore 8), (12, .iload 8), (14, .iload_n 2), (15, .if_icmp .lt 84), (18, .aload_n 1), (19, .iload 8), (21, .invokestatic 47), (24, .istore 9), (26, .iload 9), (28, .invokestatic 64), (31, .ifCond .eq 24), (34, .aload 4), (36, .iload 5), (38, .iload 9), (40, .iadd), (41, .bipush 32), (43, .isub), (44, .iload 6), (46, .isub), (47, .invokestatic 47), (50, .istore 10), (52, .goto 27), (55, .aload_n 0), (56, .iload 9), (58, .iload 7), (60, .invokevirtual 60), (63, .istore 10), (65, .iload 7), (67, .aload_n 0), (68, .getfield 30), (71, .iload 9), (73, .invokevirtual 55), (76, .iadd), (77, .istore 7), (79, .iinc 7 (-1)), (82, .aload_n 0), (83, .getfield 27), (86, .iload 7), (88, .iload 10), (90, .invokestatic 68), (93, .iinc 8 (-1)), (96, .goto (-84)), (99, .aload_n 0), (100, .getfield 27), (103, .iload 7), (105, .invokestatic 47), (108, .ireturn)],
  [(27, 0, 6, 5, 487), (30, 0, 6, 6, 488), (47, 5, 111, 2, 584), (55, 3, 63, 1, 580), (60, 2, 87, 2, 576), (64, 5, 115, 1, 607), (68, 5, 113, 3, 591)], none)
set_option maxRecDepth 100000 in
theorem mk_X6_put : mx_mok (fun a => mt_nm[a]?) mt_X6_put = true := by decide +kernel
def mt_X6_make : mM := (yX6_make, cX6_make, (8, (some .int), 2, 6, 0), (579, 578, 9, 156),
  [(0, .aload_n 0), (1, .getfield 30), (4, .iload_n 1), (5, .invokevirtual 55), (8, .istore_n 3), (9, .iload_n 1), (10, .istore 4), (12, .iconst 0), (13, .istore 5), (15, .iload 5), (17, .iload_n 3), (18, .if_icmp .ge 28), (21, .iload 4), (23, .bipush 31), (25, .imul), (26, .aload_n 0), (27, .getfield 27), (30, .iload_n 2), (31, .iload 5), (33, .iadd), (34, .invokestatic 47), (37, .iadd), (38, .istore 4), (40, .iinc 5 1), (43, .goto (-28)), (46, .iload 4), (48, .iload 4), (50, .bipush 11), (52, .iushr), (53, .ixor), (54, .sipush 2047), (57, .iand), (58, .istore 5), (60, .aload_n 0), (61, .getfield 24), (64, .iload 5), (66, .invokestatic 47), (69, .istore 6), (71, .iconst 0), (72, .istore 7), (74, .iload 7), (76, .sipush 7000), (79, .if_icmp .ge 52), (82, .iload 6), (84, .ifCond .lt 47), (87, .aload_n 0), (88, .getfield 9), (91, .iload 6), (93, .invokestatic 47), (96, .iload_n 1), (97, .if_icmp .ne 17), (100, .aload_n 0), (101, .iload 6), (103, .iload_n 2), (104, .iload_n 3), (105, .invokevirtual 72), (108, .ifCond .eq 6), (111, .iload 6), (113, .ireturn), (114, .aload_n 0), (115, .getfield 18), (118, .iload 6), (120, .invokestatic 47), (123, .istore 6), (125, .iinc 7 1), (128, .goto (-54)), (131, .aload_n 0), (132, .getfield 34), (135, .istore 6), (137, .iload 6), (139, .sipush 7000), (142, .if_icmp .ge 15), (145, .aload_n 0), (146, .getfield 38), (149, .iload_n 3), (150, .iadd), (151, .sipush 7000), (154, .if_icmp .le 5), (157, .iconst (-1)), (158, .ireturn), (159, .aload_n 0), (160, .getfield 9), (163, .iload 6), (165, .iload_n 1), (166, .invokestatic 68), (169, .aload_n 0), (170, .getfield 15), (173, .iload 6), (175, .aload_n 0), (176, .getfield 38), (179, .invokestatic 68), (182, .aload_n 0), (183, .getfield 18), (186, .iload 6), (188, .aload_n 0), (189, .getfield 24), (192, .iload 5), (194, .invokestatic 47), (197, .invokestatic 68), (200, .aload_n 0), (201, .getfield 24), (204, .iload 5), (206, .iload 6), (208, .invokestatic 68), (211, .iconst 0), (212, .istore 7), (214, .iload 7), (216, .iload_n 3), (217, .if_icmp .ge 34), (220, .aload_n 0), (221, .getfield 21), (224, .aload_n 0), (225, .getfield 38), (228, .iload 7), (230, .iadd), (231, .aload_n 0), (232, .getfield 27), (235, .iload_n 2), (236, .iload 7), (238, .iadd), (239, .invokestatic 47), (242, .invokestatic 68), (245, .iinc 7 1), (248, .goto (-34)), (251, .aload_n 0), (252, .dup), (253, .getfield 38), (256, .iload_n 3), (257, .iadd), (258, .putfield 38), (261, .aload_n 0), (262, .dup), (263, .getfield 34), (266, .iconst 1), (267, .iadd), (268, .putfield 34), (271, .iload 6), (273, .ireturn)],
  [(9, 0, 6, 0, 482), (15, 0, 6, 1, 483), (18, 0, 6, 2, 484), (21, 0, 6, 3, 485), (24, 0, 6, 4, 486), (27, 0, 6, 5, 487), (30, 0, 6, 6, 488), (34, 0, 6, 7, 489), (38, 0, 6, 8, 490), (47, 5, 111, 2, 584), (55, 3, 63, 1, 580), (68, 5, 113, 3, 591), (72, 2, 88, 3, 587)], none)
set_option maxRecDepth 100000 in
theorem mk_X6_make : mx_mok (fun a => mt_nm[a]?) mt_X6_make = true := by decide +kernel
def mt_X6_hasParts : mM := (yX6_hasParts, cX6_hasParts, (6, (some .boolean), 3, 6, 0), (590, 589, 11, 156),
  [(0, .iload_n 1), (1, .ifCond .lt 19), (4, .iload_n 1), (5, .sipush 7000), (8, .if_icmp .ge 12), (11, .aload_n 0), (12, .getfield 15), (15, .iload_n 1), (16, .iaload), (17, .goto 6), (20, .sipush 7000), (23, .istore 4), (25, .iload_n 2), (26, .ifCond .lt 27), (29, .iload 4), (31, .ifCond .lt 22), (34, .iload_n 2), (35, .iload_n 3), (36, .iadd), (37, .sipush 300), (40, .if_icmp .gt 13), (43, .iload 4), (45, .iload_n 3), (46, .iadd), (47, .sipush 7000), (50, .if_icmp .le 13), (53, .iload_n 3), (54, .ifCond .ne 7), (57, .iconst 1), (58, .goto 4), (61, .iconst 0), (62, .ireturn), (63, .iconst 0), (64, .istore 5), (66, .iload 5), (68, .iload_n 3), (69, .if_icmp .ge 33), (72, .aload_n 0), (73, .getfield 27), (76, .iload_n 2), (77, .iload 5), (79, .iadd), (80, .iaload), (81, .aload_n 0), (82, .getfield 21), (85, .iload 4), (87, .iload 5), (89, .iadd), (90, .iaload), (91, .if_icmp .eq 5), (94, .iconst 0), (95, .ireturn), (96, .iinc 5 1), (99, .goto (-33)), (102, .iconst 1), (103, .ireturn)],
  [(15, 0, 6, 1, 483), (21, 0, 6, 3, 485), (27, 0, 6, 5, 487)], none)
set_option maxRecDepth 100000 in
theorem mk_X6_hasParts : mx_mok (fun a => mt_nm[a]?) mt_X6_hasParts = true := by decide +kernel
def mt_X7_init : mM := (yX7_init, cX7_init, (1, none, 0, 7, 2), (221, 220, 0, 147),
  [(0, .aload_n 0), (1, .invokespecial 3), (4, .aload_n 0), (5, .sipush 6400), (8, .newarray .int), (10, .putfield 9), (13, .aload_n 0), (14, .sipush 6400), (17, .newarray .int), (19, .putfield 15), (22, .aload_n 0), (23, .bipush 80), (25, .newarray .int), (27, .putfield 18), (30, .return_)],
  [(3, 8, 0, 0, 222), (9, 0, 7, 0, 223), (15, 0, 7, 1, 225), (18, 0, 7, 2, 226)], some 7)
set_option maxRecDepth 100000 in
theorem mk_X7_init : mx_mok (fun a => mt_nm[a]?) mt_X7_init = true := by decide +kernel
def mt_X7_measure : mM := (yX7_measure, cX7_measure, (7, none, 1, 7, 0), (899, 898, 50, 147),
  [(0, .aload_n 0), (1, .getfield 9), (4, .iconst 0), (5, .invokestatic 21), (8, .aload_n 0), (9, .getfield 18), (12, .iconst 0), (13, .invokestatic 21), (16, .aload_n 0), (17, .iconst 0), (18, .putfield 27), (21, .iconst 0), (22, .istore_n 2), (23, .iload_n 2), (24, .aload_n 1), (25, .getfield 31), (28, .if_icmp .ge 84), (31, .aload_n 1), (32, .getfield 37), (35, .iload_n 2), (36, .invokestatic 40), (39, .istore_n 3), (40, .iload_n 2), (41, .iconst 1), (42, .iadd), (43, .istore 4), (45, .iconst 0), (46, .istore 5), (48, .iload_n 3), (49, .invokestatic 44), (52, .ifCond .eq 54), (55, .iload 5), (57, .aload_n 1), (58, .iload_n 3), (59, .invokevirtual 48), (62, .if_icmp .ge 44), (65, .aload_n 1), (66, .iload 4), (68, .invokevirtual 52), (71, .istore 6), (73, .aload_n 0), (74, .aload_n 1), (75, .getfield 37), (78, .iload 4), (80, .iload 6), (82, .aload_n 1), (83, .getfield 55), (86, .iload_n 3), (87, .invokestatic 40), (90, .iload 5), (92, .iadd), (93, .invokevirtual 58), (96, .iload 6), (98, .istore 4), (100, .iinc 5 1), (103, .goto (-55)), (106, .iinc 2 1), (109, .goto (-86)), (112, .aload_n 0), (113, .aload_n 1), (114, .getfield 62), (117, .invokevirtual 65), (120, .aload_n 0), (121, .aload_n 1), (122, .getfield 62), (125, .invokevirtual 69), (128, .return_)],
  [(9, 0, 7, 0, 223), (18, 0, 7, 2, 226), (21, 4, 192, 2, 900), (27, 0, 7, 3, 228), (31, 1, 4, 14, 389), (37, 1, 4, 10, 377), (40, 5, 111, 2, 901), (44, 5, 114, 1, 902), (48, 3, 63, 1, 905), (52, 3, 64, 1, 906), (55, 1, 4, 1, 357), (58, 2, 91, 4, 907), (62, 1, 4, 13, 386), (65, 2, 92, 1, 914), (69, 2, 94, 1, 923)], none)
set_option maxRecDepth 100000 in
theorem mk_X7_measure : mx_mok (fun a => mt_nm[a]?) mt_X7_measure = true := by decide +kernel
def mt_X7_addWays : mM := (yX7_addWays, cX7_addWays, (9, none, 4, 7, 0), (910, 909, 51, 147),
  [(0, .iload_n 3), (1, .iload_n 2), (2, .isub), (3, .iconst 1), (4, .if_icmp .le 7), (7, .iconst 2), (8, .goto 4), (11, .iconst 1), (12, .istore 5), (14, .iload_n 2), (15, .istore 6), (17, .iload 6), (19, .iload_n 3), (20, .if_icmp .ge 61), (23, .aload_n 1), (24, .iload 6), (26, .invokestatic 40), (29, .istore 7), (31, .iload 7), (33, .invokestatic 72), (36, .ifCond .eq 39), (39, .iload 7), (41, .bipush 32), (43, .isub), (44, .bipush 80), (46, .imul), (47, .iload 4), (49, .iadd), (50, .istore 8), (52, .aload_n 0), (53, .getfield 9), (56, .iload 8), (58, .iload 5), (60, .aload_n 0), (61, .getfield 9), (64, .iload 8), (66, .invokestatic 40), (69, .invokestatic 75), (72, .invokestatic 81), (75, .iinc 6 1), (78, .goto (-61)), (81, .return_)],
  [(9, 0, 7, 0, 223), (40, 5, 111, 2, 901), (72, 5, 115, 1, 911), (75, 4, 193, 2, 912), (81, 5, 113, 3, 913)], none)
set_option maxRecDepth 100000 in
theorem mk_X7_addWays : mx_mok (fun a => mt_nm[a]?) mt_X7_addWays = true := by decide +kernel
def mt_X7_closeReach : mM := (yX7_closeReach, cX7_closeReach, (4, none, 1, 7, 0), (917, 916, 52, 147),
  [(0, .aload_n 0), (1, .getfield 9), (4, .iconst 0), (5, .aload_n 0), (6, .getfield 15), (9, .iconst 0), (10, .aload_n 0), (11, .getfield 15), (14, .arraylength), (15, .invokestatic 85), (18, .iconst 0), (19, .istore_n 2), (20, .iload_n 2), (21, .iload_n 1), (22, .if_icmp .ge 45), (25, .iconst 0), (26, .istore_n 3), (27, .iload_n 3), (28, .iload_n 1), (29, .if_icmp .ge 32), (32, .aload_n 0), (33, .getfield 15), (36, .iload_n 3), (37, .bipush 80), (39, .imul), (40, .iload_n 2), (41, .iadd), (42, .invokestatic 40), (45, .ifCond .le 10), (48, .aload_n 0), (49, .iload_n 3), (50, .iload_n 2), (51, .iload_n 1), (52, .invokevirtual 91), (55, .iinc 3 1), (58, .goto (-31)), (61, .iinc 2 1), (64, .goto (-44)), (67, .return_)],
  [(9, 0, 7, 0, 223), (15, 0, 7, 1, 225), (40, 5, 111, 2, 901), (91, 2, 93, 3, 919)], none)
set_option maxRecDepth 100000 in
theorem mk_X7_closeReach : mx_mok (fun a => mt_nm[a]?) mt_X7_closeReach = true := by decide +kernel
def mt_X7_joinReach : mM := (yX7_joinReach, cX7_joinReach, (5, none, 3, 7, 0), (922, 921, 53, 147),
  [(0, .iconst 0), (1, .istore 4), (3, .iload 4), (5, .iload_n 3), (6, .if_icmp .ge 41), (9, .aload_n 0), (10, .getfield 15), (13, .iload_n 2), (14, .bipush 80), (16, .imul), (17, .iload 4), (19, .iadd), (20, .invokestatic 40), (23, .ifCond .le 18), (26, .aload_n 0), (27, .getfield 15), (30, .iload_n 1), (31, .bipush 80), (33, .imul), (34, .iload 4), (36, .iadd), (37, .iconst 1), (38, .invokestatic 81), (41, .iinc 4 1), (44, .goto (-41)), (47, .return_)],
  [(15, 0, 7, 1, 225), (40, 5, 111, 2, 901), (81, 5, 113, 3, 913)], none)
set_option maxRecDepth 100000 in
theorem mk_X7_joinReach : mx_mok (fun a => mt_nm[a]?) mt_X7_joinReach = true := by decide +kernel
def mt_X7_markRounds : mM := (yX7_markRounds, cX7_markRounds, (4, none, 1, 7, 0), (926, 925, 54, 147),
  [(0, .iconst 0), (1, .istore_n 2), (2, .iload_n 2), (3, .iload_n 1), (4, .if_icmp .ge 59), (7, .iconst 0), (8, .istore_n 3), (9, .iload_n 3), (10, .iload_n 1), (11, .if_icmp .ge 46), (14, .aload_n 0), (15, .getfield 9), (18, .iload_n 2), (19, .bipush 80), (21, .imul), (22, .iload_n 3), (23, .iadd), (24, .invokestatic 40), (27, .iconst 2), (28, .if_icmp .ne 23), (31, .aload_n 0), (32, .iload_n 3), (33, .iload_n 2), (34, .invokevirtual 95), (37, .ifCond .eq 14), (40, .aload_n 0), (41, .iconst 1), (42, .putfield 27), (45, .aload_n 0), (46, .iload_n 2), (47, .iload_n 1), (48, .invokevirtual 99), (51, .iinc 3 1), (54, .goto (-45)), (57, .iinc 2 1), (60, .goto (-58)), (63, .return_)],
  [(9, 0, 7, 0, 223), (27, 0, 7, 3, 228), (40, 5, 111, 2, 901), (95, 2, 96, 2, 927), (99, 2, 95, 2, 931)], none)
set_option maxRecDepth 100000 in
theorem mk_X7_markRounds : mx_mok (fun a => mt_nm[a]?) mt_X7_markRounds = true := by decide +kernel
def mt_X7_markRound : mM := (yX7_markRound, cX7_markRound, (4, none, 2, 7, 0), (934, 933, 56, 147),
  [(0, .iconst 0), (1, .istore_n 3), (2, .iload_n 3), (3, .iload_n 2), (4, .if_icmp .ge 36), (7, .aload_n 0), (8, .iload_n 1), (9, .iload_n 3), (10, .invokevirtual 95), (13, .ifCond .eq 21), (16, .aload_n 0), (17, .iload_n 3), (18, .iload_n 1), (19, .invokevirtual 95), (22, .ifCond .eq 12), (25, .aload_n 0), (26, .getfield 18), (29, .iload_n 3), (30, .iconst 1), (31, .invokestatic 81), (34, .iinc 3 1), (37, .goto (-35)), (40, .return_)],
  [(18, 0, 7, 2, 226), (81, 5, 113, 3, 913), (95, 2, 96, 2, 927)], none)
set_option maxRecDepth 100000 in
theorem mk_X7_markRound : mx_mok (fun a => mt_nm[a]?) mt_X7_markRound = true := by decide +kernel
def mt_X7_leads : mM := (yX7_leads, cX7_leads, (3, (some .boolean), 2, 7, 0), (930, 929, 55, 147),
  [(0, .iload_n 1), (1, .iload_n 2), (2, .if_icmp .eq 19), (5, .aload_n 0), (6, .getfield 15), (9, .iload_n 1), (10, .bipush 80), (12, .imul), (13, .iload_n 2), (14, .iadd), (15, .invokestatic 40), (18, .ifCond .le 7), (21, .iconst 1), (22, .goto 4), (25, .iconst 0), (26, .ireturn)],
  [(15, 0, 7, 1, 225), (40, 5, 111, 2, 901)], none)
set_option maxRecDepth 100000 in
theorem mk_X7_leads : mx_mok (fun a => mt_nm[a]?) mt_X7_leads = true := by decide +kernel
def mt_X8_init : mM := (yX8_init, cX8_init, (1, none, 0, 8, 2), (173, 172, 0, 145),
  [(0, .aload_n 0), (1, .invokespecial 3), (4, .aload_n 0), (5, .new 9), (8, .dup), (9, .invokespecial 11), (12, .putfield 12), (15, .aload_n 0), (16, .new 16), (19, .dup), (20, .invokespecial 18), (23, .putfield 19), (26, .aload_n 0), (27, .new 23), (30, .dup), (31, .invokespecial 25), (34, .putfield 26), (37, .aload_n 0), (38, .new 30), (41, .dup), (42, .invokespecial 32), (45, .putfield 33), (48, .aload_n 0), (49, .new 30), (52, .dup), (53, .invokespecial 32), (56, .putfield 37), (59, .aload_n 0), (60, .new 40), (63, .dup), (64, .aload_n 0), (65, .getfield 12), (68, .aload_n 0), (69, .getfield 33), (72, .invokespecial 42), (75, .putfield 45), (78, .aload_n 0), (79, .new 49), (82, .dup), (83, .aload_n 0), (84, .getfield 33), (87, .invokespecial 51), (90, .putfield 54), (93, .aload_n 0), (94, .getfield 54), (97, .aload_n 0), (98, .getfield 33), (101, .iconst (-1)), (102, .invokevirtual 58), (105, .return_)],
  [(3, 8, 0, 0, 174), (9, 9, 5, 0, 177), (11, 7, 70, 0, 179), (12, 0, 8, 0, 610), (16, 9, 7, 0, 217), (18, 7, 89, 0, 219), (19, 0, 8, 1, 611), (23, 9, 2, 0, 239), (25, 7, 29, 0, 241), (26, 0, 8, 2, 612), (30, 9, 4, 0, 263), (32, 7, 54, 0, 265), (33, 0, 8, 3, 613), (37, 0, 8, 4, 614), (40, 9, 3, 0, 423), (42, 7, 36, 2, 425), (45, 0, 8, 5, 615), (49, 9, 0, 0, 470), (51, 7, 0, 1, 472), (54, 0, 8, 6, 616), (58, 3, 1, 2, 563)], some 8)
set_option maxRecDepth 100000 in
theorem mk_X8_init : mx_mok (fun a => mt_nm[a]?) mt_X8_init = true := by decide +kernel
def mt_X8_feed : mM := (yX8_feed, cX8_feed, (4, (some .int), 2, 8, 0), (1045, 1043, 1044, 145),
  [(0, .iload_n 3), (1, .iconst 1), (2, .if_icmp .lt 9), (5, .iload_n 3), (6, .bipush 8), (8, .if_icmp .le 13), (11, .new 62), (14, .dup), (15, .ldc 64), (17, .invokespecial 66), (20, .athrow), (21, .aload_n 0), (22, .getfield 12), (25, .getfield 69), (28, .iload_n 3), (29, .iadd), (30, .sipush 800), (33, .if_icmp .le 13), (36, .new 73), (39, .dup), (40, .ldc 75), (42, .invokespecial 77), (45, .athrow), (46, .aload_n 0), (47, .getfield 12), (50, .lload_n 1), (51, .iload_n 3), (52, .invokevirtual 78), (55, .aload_n 0), (56, .getfield 12), (59, .getfield 69), (62, .ireturn)],
  [(12, 0, 8, 0, 610), (69, 1, 5, 4, 188), (78, 3, 71, 2, 1129)], none)
set_option maxRecDepth 100000 in
theorem mk_X8_feed : mx_mok (fun a => mt_nm[a]?) mt_X8_feed = true := by decide +kernel
def mt_X8_read : mM := (yX8_read, cX8_read, (3, (some .int), 0, 8, 0), (638, 636, 637, 145),
  [(0, .aload_n 0), (1, .getfield 45), (4, .aload_n 0), (5, .getfield 37), (8, .invokevirtual 82), (11, .istore_n 1), (12, .aload_n 0), (13, .aload_n 0), (14, .getfield 45), (17, .getfield 86), (20, .putfield 89), (23, .iload_n 1), (24, .ifCond .ne 14), (27, .bipush (-10)), (29, .aload_n 0), (30, .getfield 45), (33, .getfield 92), (36, .isub), (37, .ireturn), (38, .aload_n 0), (39, .getfield 33), (42, .astore_n 2), (43, .aload_n 0), (44, .aload_n 0), (45, .getfield 37), (48, .putfield 33), (51, .aload_n 0), (52, .aload_n 2), (53, .putfield 37), (56, .aload_n 0), (57, .getfield 19), (60, .aload_n 0), (61, .getfield 33), (64, .invokevirtual 95), (67, .aload_n 0), (68, .getfield 54), (71, .aload_n 0), (72, .getfield 33), (75, .iconst (-1)), (76, .invokevirtual 58), (79, .aload_n 0), (80, .getfield 33), (83, .getfield 98), (86, .ireturn)],
  [(19, 0, 8, 1, 611), (33, 0, 8, 3, 613), (37, 0, 8, 4, 614), (45, 0, 8, 5, 615), (54, 0, 8, 6, 616), (58, 3, 1, 2, 563), (82, 3, 38, 1, 639), (86, 1, 3, 8, 443), (89, 0, 8, 7, 617), (92, 1, 3, 9, 445), (95, 3, 90, 1, 896), (98, 1, 4, 12, 383)], none)
set_option maxRecDepth 100000 in
theorem mk_X8_read : mx_mok (fun a => mt_nm[a]?) mt_X8_read = true := by decide +kernel
def mt_X8_fault : mM := (yX8_fault, cX8_fault, (1, (some .int), 0, 8, 0), (939, 937, 938, 145),
  [(0, .aload_n 0), (1, .getfield 89), (4, .ireturn)],
  [(89, 0, 8, 7, 617)], none)
set_option maxRecDepth 100000 in
theorem mk_X8_fault : mx_mok (fun a => mt_nm[a]?) mt_X8_fault = true := by decide +kernel
def mt_X8_cls : mM := (yX8_cls, cX8_cls, (3, (some .long), 2, 8, 0), (1141, 1139, 1140, 145),
  [(0, .iload_n 1), (1, .ifCond .lt 14), (4, .iload_n 1), (5, .aload_n 0), (6, .getfield 33), (9, .getfield 98), (12, .if_icmp .lt 13), (15, .new 101), (18, .dup), (19, .ldc 103), (21, .invokespecial 105), (24, .athrow), (25, .iload_n 2), (26, .tableswitch 109 0 4 #[34, 44, 57, 67, 79]), (60, .aload_n 0), (61, .getfield 33), (64, .iload_n 1), (65, .invokevirtual 106), (68, .i2l), (69, .lreturn), (70, .aload_n 0), (71, .getfield 33), (74, .getfield 110), (77, .iload_n 1), (78, .invokestatic 114), (81, .i2l), (82, .lreturn), (83, .aload_n 0), (84, .getfield 33), (87, .iload_n 1), (88, .invokevirtual 118), (91, .i2l), (92, .lreturn), (93, .aload_n 0), (94, .getfield 33), (97, .getfield 121), (100, .iload_n 1), (101, .invokestatic 125), (104, .lreturn), (105, .aload_n 0), (106, .getfield 33), (109, .iload_n 1), (110, .invokevirtual 106), (113, .ifCond .le 18), (116, .aload_n 0), (117, .getfield 33), (120, .getfield 129), (123, .iload_n 1), (124, .invokestatic 114), (127, .i2l), (128, .goto 6), (131, .ldc2_w 132), (134, .lreturn), (135, .new 62), (138, .dup), (139, .ldc 134), (141, .invokespecial 66), (144, .athrow)],
  [(33, 0, 8, 3, 613), (98, 1, 4, 12, 383), (106, 3, 63, 1, 1158), (110, 1, 4, 3, 361), (114, 4, 111, 2, 1159), (118, 3, 67, 1, 1160), (121, 1, 4, 0, 354), (125, 4, 112, 2, 1164), (129, 1, 4, 1, 358), (132, 11, 0, 1165, -1)], none)
set_option maxRecDepth 100000 in
theorem mk_X8_cls : mx_mok (fun a => mt_nm[a]?) mt_X8_cls = true := by decide +kernel
def mt_X8_isAbove : mM := (yX8_isAbove, cX8_isAbove, (3, (some .int), 2, 8, 0), (1173, 1171, 1172, 145),
  [(0, .iload_n 1), (1, .ifCond .lt 29), (4, .iload_n 1), (5, .aload_n 0), (6, .getfield 33), (9, .getfield 98), (12, .if_icmp .ge 18), (15, .iload_n 2), (16, .ifCond .lt 14), (19, .iload_n 2), (20, .aload_n 0), (21, .getfield 33), (24, .getfield 98), (27, .if_icmp .lt 13), (30, .new 101), (33, .dup), (34, .ldc 103), (36, .invokespecial 105), (39, .athrow), (40, .aload_n 0), (41, .getfield 33), (44, .iload_n 1), (45, .iload_n 2), (46, .invokevirtual 136), (49, .ifCond .le 7), (52, .iconst 1), (53, .goto 4), (56, .iconst 0), (57, .ireturn)],
  [(33, 0, 8, 3, 613), (98, 1, 4, 12, 383), (136, 3, 65, 2, 1174)], none)
set_option maxRecDepth 100000 in
theorem mk_X8_isAbove : mx_mok (fun a => mt_nm[a]?) mt_X8_isAbove = true := by decide +kernel
def mt_X8_parameter : mM := (yX8_parameter, cX8_parameter, (3, (some .long), 2, 8, 0), (1181, 1179, 1180, 145),
  [(0, .iload_n 1), (1, .ifCond .lt 14), (4, .iload_n 1), (5, .aload_n 0), (6, .getfield 33), (9, .getfield 140), (12, .if_icmp .lt 13), (15, .new 101), (18, .dup), (19, .ldc 143), (21, .invokespecial 105), (24, .athrow), (25, .iload_n 2), (26, .tableswitch 81 0 3 #[30, 43, 56, 68]), (56, .aload_n 0), (57, .getfield 33), (60, .getfield 145), (63, .iload_n 1), (64, .invokestatic 114), (67, .i2l), (68, .lreturn), (69, .aload_n 0), (70, .getfield 33), (73, .getfield 148), (76, .iload_n 1), (77, .invokestatic 114), (80, .i2l), (81, .lreturn), (82, .aload_n 0), (83, .getfield 33), (86, .getfield 151), (89, .iload_n 1), (90, .invokestatic 125), (93, .lreturn), (94, .aload_n 0), (95, .getfield 19), (98, .getfield 154), (101, .iload_n 1), (102, .invokestatic 114), (105, .i2l), (106, .lreturn), (107, .new 62), (110, .dup), (111, .ldc 157), (113, .invokespecial 66), (116, .athrow)],
  [(19, 0, 8, 1, 611), (33, 0, 8, 3, 613), (114, 4, 111, 2, 1159), (125, 4, 112, 2, 1164), (140, 1, 4, 13, 387), (145, 1, 4, 6, 367), (148, 1, 4, 7, 370), (151, 1, 4, 5, 365), (154, 1, 7, 2, 227)], none)
set_option maxRecDepth 100000 in
theorem mk_X8_parameter : mx_mok (fun a => mt_nm[a]?) mt_X8_parameter = true := by decide +kernel
def mt_X8_way : mM := (yX8_way, cX8_way, (3, (some .int), 2, 8, 0), (1190, 1188, 1189, 145),
  [(0, .iload_n 1), (1, .ifCond .lt 29), (4, .iload_n 1), (5, .aload_n 0), (6, .getfield 33), (9, .getfield 140), (12, .if_icmp .ge 18), (15, .iload_n 2), (16, .ifCond .lt 14), (19, .iload_n 2), (20, .aload_n 0), (21, .getfield 33), (24, .getfield 140), (27, .if_icmp .lt 13), (30, .new 101), (33, .dup), (34, .ldc 143), (36, .invokespecial 105), (39, .athrow), (40, .aload_n 0), (41, .getfield 19), (44, .getfield 159), (47, .iload_n 1), (48, .bipush 80), (50, .imul), (51, .iload_n 2), (52, .iadd), (53, .invokestatic 114), (56, .ireturn)],
  [(19, 0, 8, 1, 611), (33, 0, 8, 3, 613), (114, 4, 111, 2, 1159), (140, 1, 4, 13, 387), (159, 1, 7, 0, 224)], none)
set_option maxRecDepth 100000 in
theorem mk_X8_way : mx_mok (fun a => mt_nm[a]?) mt_X8_way = true := by decide +kernel
def mt_X8_ask : mM := (yX8_ask, cX8_ask, (5, (some .int), 1, 8, 0), (1197, 1195, 1196, 145),
  [(0, .iload_n 1), (1, .ifCond .lt 10), (4, .iload_n 1), (5, .sipush 3000), (8, .if_icmp .le 13), (11, .new 62), (14, .dup), (15, .ldc 162), (17, .invokespecial 66), (20, .athrow), (21, .aload_n 0), (22, .getfield 45), (25, .aload_n 0), (26, .getfield 33), (29, .invokevirtual 164), (32, .istore_n 2), (33, .aload_n 0), (34, .aload_n 0), (35, .getfield 45), (38, .getfield 86), (41, .putfield 89), (44, .iload_n 2), (45, .ifCond .ne 14), (48, .bipush (-10)), (50, .aload_n 0), (51, .getfield 45), (54, .getfield 92), (57, .isub), (58, .ireturn), (59, .aload_n 0), (60, .getfield 54), (63, .aload_n 0), (64, .getfield 33), (67, .aload_n 0), (68, .getfield 45), (71, .getfield 167), (74, .invokevirtual 58), (77, .aload_n 0), (78, .getfield 54), (81, .aload_n 0), (82, .getfield 45), (85, .getfield 170), (88, .iconst 0), (89, .aload_n 0), (90, .getfield 45), (93, .getfield 173), (96, .invokevirtual 176), (99, .istore_n 3), (100, .aload_n 0), (101, .getfield 54), (104, .aload_n 0), (105, .getfield 45), (108, .getfield 170), (111, .aload_n 0), (112, .getfield 45), (115, .getfield 173), (118, .aload_n 0), (119, .getfield 45), (122, .getfield 180), (125, .aload_n 0), (126, .getfield 45), (129, .getfield 173), (132, .isub), (133, .invokevirtual 176), (136, .istore 4), (138, .aload_n 0), (139, .getfield 54), (142, .iload_n 1), (143, .putfield 183), (146, .aload_n 0), (147, .getfield 54), (150, .iload_n 3), (151, .iload 4), (153, .iconst 1), (154, .invokevirtual 186), (157, .ireturn)],
  [(33, 0, 8, 3, 613), (45, 0, 8, 5, 615), (54, 0, 8, 6, 616), (58, 3, 1, 2, 563), (86, 1, 3, 8, 443), (89, 0, 8, 7, 617), (92, 1, 3, 9, 445), (164, 3, 39, 1, 1199), (167, 1, 3, 5, 437), (170, 1, 3, 3, 433), (173, 1, 3, 6, 439), (176, 3, 3, 3, 952), (180, 1, 3, 4, 435), (183, 1, 0, 10, 523), (186, 3, 5, 3, 1203)], none)
set_option maxRecDepth 100000 in
theorem mk_X8_ask : mx_mok (fun a => mt_nm[a]?) mt_X8_ask = true := by decide +kernel
def mt_X8_told : mM := (yX8_told, cX8_told, (2, (some .int), 1, 8, 0), (1240, 1238, 1239, 145),
  [(0, .iload_n 1), (1, .tableswitch 143 0 9 #[55, 63, 71, 79, 87, 95, 103, 111, 119, 127]), (56, .aload_n 0), (57, .getfield 54), (60, .getfield 190), (63, .ireturn), (64, .aload_n 0), (65, .getfield 54), (68, .getfield 193), (71, .ireturn), (72, .aload_n 0), (73, .getfield 54), (76, .getfield 196), (79, .ireturn), (80, .aload_n 0), (81, .getfield 54), (84, .getfield 199), (87, .ireturn), (88, .aload_n 0), (89, .getfield 33), (92, .getfield 98), (95, .ireturn), (96, .aload_n 0), (97, .getfield 33), (100, .getfield 140), (103, .ireturn), (104, .aload_n 0), (105, .getfield 33), (108, .getfield 202), (111, .ireturn), (112, .aload_n 0), (113, .getfield 12), (116, .getfield 69), (119, .ireturn), (120, .aload_n 0), (121, .getfield 26), (124, .getfield 205), (127, .ireturn), (128, .aload_n 0), (129, .getfield 19), (132, .getfield 206), (135, .ifCond .eq 7), (138, .iconst 1), (139, .goto 4), (142, .iconst 0), (143, .ireturn), (144, .new 62), (147, .dup), (148, .ldc 210), (150, .invokespecial 66), (153, .athrow)],
  [(12, 0, 8, 0, 610), (19, 0, 8, 1, 611), (26, 0, 8, 2, 612), (33, 0, 8, 3, 613), (54, 0, 8, 6, 616), (69, 1, 5, 4, 188), (98, 1, 4, 12, 383), (140, 1, 4, 13, 387), (190, 1, 0, 11, 525), (193, 1, 0, 12, 527), (196, 1, 0, 13, 529), (199, 1, 0, 14, 531), (202, 1, 4, 14, 391), (205, 1, 2, 3, 250), (206, 1, 7, 3, 229)], none)
set_option maxRecDepth 100000 in
theorem mk_X8_told : mx_mok (fun a => mt_nm[a]?) mt_X8_told = true := by decide +kernel
def mt_X8_above : mM := (yX8_above, cX8_above, (3, (some .int), 0, 8, 0), (943, 941, 942, 145),
  [(0, .aload_n 0), (1, .getfield 45), (4, .aload_n 0), (5, .getfield 33), (8, .invokevirtual 212), (11, .istore_n 1), (12, .aload_n 0), (13, .aload_n 0), (14, .getfield 45), (17, .getfield 86), (20, .putfield 89), (23, .iload_n 1), (24, .ifCond .ne 14), (27, .bipush (-10)), (29, .aload_n 0), (30, .getfield 45), (33, .getfield 92), (36, .isub), (37, .ireturn), (38, .aload_n 0), (39, .getfield 54), (42, .aload_n 0), (43, .getfield 33), (46, .aload_n 0), (47, .getfield 45), (50, .getfield 167), (53, .invokevirtual 58), (56, .aload_n 0), (57, .getfield 54), (60, .aload_n 0), (61, .getfield 54), (64, .aload_n 0), (65, .getfield 45), (68, .getfield 170), (71, .iconst 0), (72, .aload_n 0), (73, .getfield 45), (76, .getfield 180), (79, .invokevirtual 176), (82, .aload_n 0), (83, .getfield 45), (86, .getfield 215), (89, .invokevirtual 218), (92, .istore_n 2), (93, .iload_n 2), (94, .bipush (-4)), (96, .if_icmp .ne 6), (99, .bipush (-4)), (101, .ireturn), (102, .iload_n 2), (103, .ifCond .ge 7), (106, .iconst 0), (107, .goto 22), (110, .aload_n 0), (111, .getfield 26), (114, .aload_n 0), (115, .getfield 54), (118, .getfield 221), (121, .aload_n 0), (122, .getfield 33), (125, .iload_n 2), (126, .invokevirtual 225), (129, .ireturn)],
  [(26, 0, 8, 2, 612), (33, 0, 8, 3, 613), (45, 0, 8, 5, 615), (54, 0, 8, 6, 616), (58, 3, 1, 2, 563), (86, 1, 3, 8, 443), (89, 0, 8, 7, 617), (92, 1, 3, 9, 445), (167, 1, 3, 5, 437), (170, 1, 3, 3, 433), (176, 3, 3, 3, 952), (180, 1, 3, 4, 435), (212, 3, 40, 1, 944), (215, 1, 3, 7, 441), (218, 3, 4, 2, 953), (221, 1, 0, 0, 511), (225, 3, 30, 3, 999)], none)
set_option maxRecDepth 100000 in
theorem mk_X8_above : mx_mok (fun a => mt_nm[a]?) mt_X8_above = true := by decide +kernel
def mt_X8_variable : mM := (yX8_variable, cX8_variable, (4, (some .int), 2, 8, 0), (1248, 1246, 1247, 145),
  [(0, .iload_n 1), (1, .ifCond .lt 14), (4, .iload_n 1), (5, .aload_n 0), (6, .getfield 54), (9, .getfield 196), (12, .if_icmp .lt 13), (15, .new 101), (18, .dup), (19, .ldc 229), (21, .invokespecial 105), (24, .athrow), (25, .iload_n 2), (26, .iconst (-1)), (27, .if_icmp .ne 17), (30, .aload_n 0), (31, .getfield 54), (34, .getfield 231), (37, .iload_n 1), (38, .invokestatic 114), (41, .goto 12), (44, .aload_n 0), (45, .getfield 54), (48, .iload_n 1), (49, .iload_n 2), (50, .invokevirtual 234), (53, .istore_n 3), (54, .iload_n 3), (55, .ifCond .ge 7), (58, .iconst 0), (59, .goto 22), (62, .aload_n 0), (63, .getfield 26), (66, .aload_n 0), (67, .getfield 54), (70, .getfield 221), (73, .aload_n 0), (74, .getfield 33), (77, .iload_n 3), (78, .invokevirtual 225), (81, .ireturn)],
  [(26, 0, 8, 2, 612), (33, 0, 8, 3, 613), (54, 0, 8, 6, 616), (114, 4, 111, 2, 1159), (196, 1, 0, 13, 529), (221, 1, 0, 0, 511), (225, 3, 30, 3, 999), (231, 1, 0, 3, 515), (234, 3, 16, 2, 1250)], none)
set_option maxRecDepth 100000 in
theorem mk_X8_variable : mx_mok (fun a => mt_nm[a]?) mt_X8_variable = true := by decide +kernel
def mt_X8_written : mM := (yX8_written, cX8_written, (2, (some .int), 1, 8, 0), (1257, 1255, 1256, 145),
  [(0, .iload_n 1), (1, .ifCond .lt 14), (4, .iload_n 1), (5, .aload_n 0), (6, .getfield 26), (9, .getfield 205), (12, .if_icmp .lt 13), (15, .new 101), (18, .dup), (19, .ldc 237), (21, .invokespecial 105), (24, .athrow), (25, .aload_n 0), (26, .getfield 26), (29, .getfield 239), (32, .iload_n 1), (33, .invokestatic 114), (36, .ireturn)],
  [(26, 0, 8, 2, 612), (114, 4, 111, 2, 1159), (205, 1, 2, 3, 250), (239, 1, 2, 0, 246)], none)
set_option maxRecDepth 100000 in
theorem mk_X8_written : mx_mok (fun a => mt_nm[a]?) mt_X8_written = true := by decide +kernel
def mt_X8_clear : mM := (yX8_clear, cX8_clear, (1, none, 0, 8, 0), (1035, 1033, 1034, 145),
  [(0, .aload_n 0), (1, .getfield 12), (4, .iconst 0), (5, .putfield 69), (8, .aload_n 0), (9, .getfield 26), (12, .iconst 0), (13, .putfield 205), (16, .aload_n 0), (17, .iconst 0), (18, .putfield 89), (21, .aload_n 0), (22, .getfield 33), (25, .invokevirtual 242), (28, .aload_n 0), (29, .getfield 19), (32, .aload_n 0), (33, .getfield 33), (36, .invokevirtual 95), (39, .aload_n 0), (40, .getfield 54), (43, .aload_n 0), (44, .getfield 33), (47, .iconst (-1)), (48, .invokevirtual 58), (51, .return_)],
  [(12, 0, 8, 0, 610), (19, 0, 8, 1, 611), (26, 0, 8, 2, 612), (33, 0, 8, 3, 613), (54, 0, 8, 6, 616), (58, 3, 1, 2, 563), (69, 1, 5, 4, 188), (89, 0, 8, 7, 617), (95, 3, 90, 1, 896), (205, 1, 2, 3, 250), (242, 3, 55, 0, 1036)], none)
set_option maxRecDepth 100000 in
theorem mk_X8_clear : mx_mok (fun a => mt_nm[a]?) mt_X8_clear = true := by decide +kernel
def mt_X8_at : mM := (yX8_at, cX8_at, (2, (some .int), 2, 8, 1), (586, 585, 0, 145),
  [(0, .iload_n 1), (1, .ifCond .lt 15), (4, .iload_n 1), (5, .aload_n 0), (6, .arraylength), (7, .if_icmp .ge 9), (10, .aload_n 0), (11, .iload_n 1), (12, .iaload), (13, .goto 4), (16, .iconst (-1)), (17, .ireturn)],
  [], none)
set_option maxRecDepth 100000 in
theorem mk_X8_at : mx_mok (fun a => mt_nm[a]?) mt_X8_at = true := by decide +kernel
def mt_X8_nameAt : mM := (yX8_nameAt, cX8_nameAt, (2, (some .long), 2, 8, 1), (785, 784, 0, 145),
  [(0, .iload_n 1), (1, .ifCond .lt 15), (4, .iload_n 1), (5, .aload_n 0), (6, .arraylength), (7, .if_icmp .ge 9), (10, .aload_n 0), (11, .iload_n 1), (12, .laload), (13, .goto 4), (16, .lconst 0), (17, .lreturn)],
  [], none)
set_option maxRecDepth 100000 in
theorem mk_X8_nameAt : mx_mok (fun a => mt_nm[a]?) mt_X8_nameAt = true := by decide +kernel
def mt_X8_set : mM := (yX8_set, cX8_set, (3, none, 3, 8, 1), (347, 346, 0, 145),
  [(0, .iload_n 1), (1, .ifCond .lt 13), (4, .iload_n 1), (5, .aload_n 0), (6, .arraylength), (7, .if_icmp .ge 7), (10, .aload_n 0), (11, .iload_n 1), (12, .iload_n 2), (13, .iastore), (14, .return_)],
  [], none)
set_option maxRecDepth 100000 in
theorem mk_X8_set : mx_mok (fun a => mt_nm[a]?) mt_X8_set = true := by decide +kernel
def mt_X8_isClass : mM := (yX8_isClass, cX8_isClass, (1, (some .boolean), 1, 8, 1), (904, 903, 0, 145),
  [(0, .iload_n 0), (1, .ifCond .lt 13), (4, .iload_n 0), (5, .bipush 21), (7, .if_icmp .ge 7), (10, .iconst 1), (11, .goto 4), (14, .iconst 0), (15, .ireturn)],
  [], none)
set_option maxRecDepth 100000 in
theorem mk_X8_isClass : mx_mok (fun a => mt_nm[a]?) mt_X8_isClass = true := by decide +kernel
def mt_X8_isParameter : mM := (yX8_isParameter, cX8_isParameter, (1, (some .boolean), 1, 8, 1), (609, 608, 0, 145),
  [(0, .iload_n 0), (1, .bipush 32), (3, .if_icmp .lt 13), (6, .iload_n 0), (7, .bipush 112), (9, .if_icmp .ge 7), (12, .iconst 1), (13, .goto 4), (16, .iconst 0), (17, .ireturn)],
  [], none)
set_option maxRecDepth 100000 in
theorem mk_X8_isParameter : mx_mok (fun a => mt_nm[a]?) mt_X8_isParameter = true := by decide +kernel
def mt_X8_isWild : mM := (yX8_isWild, cX8_isWild, (1, (some .boolean), 1, 8, 1), (978, 977, 0, 145),
  [(0, .iload_n 0), (1, .sipush 200), (4, .if_icmp .lt 14), (7, .iload_n 0), (8, .sipush 202), (11, .if_icmp .gt 7), (14, .iconst 1), (15, .goto 4), (18, .iconst 0), (19, .ireturn)],
  [], none)
set_option maxRecDepth 100000 in
theorem mk_X8_isWild : mx_mok (fun a => mt_nm[a]?) mt_X8_isWild = true := by decide +kernel
def mt_J7_fill_53178 : mM := (yJ7_fill_53178, cJ7_fill_53178, (4, none, 2, 0, 1), (310, 309, 0, 151),
  [(0, .iconst 0), (1, .istore_n 2), (2, .aload_n 0), (3, .arraylength), (4, .istore_n 3), (5, .iload_n 2), (6, .iload_n 3), (7, .if_icmp .ge 13), (10, .aload_n 0), (11, .iload_n 2), (12, .iload_n 1), (13, .iastore), (14, .iinc 2 1), (17, .goto (-12)), (20, .return_)],
  [], none)
set_option maxRecDepth 100000 in
theorem mk_J7_fill_53178 : mx_mok (fun a => mt_nm[a]?) mt_J7_fill_53178 = true := by decide +kernel
def mt_J9_max_7cf53 : mM := (yJ9_max_7cf53, cJ9_max_7cf53, (2, (some .int), 2, 0, 1), (327, 326, 0, 152),
  [(0, .iload_n 0), (1, .iload_n 1), (2, .if_icmp .lt 7), (5, .iload_n 0), (6, .goto 4), (9, .iload_n 1), (10, .ireturn)],
  [], none)
set_option maxRecDepth 100000 in
theorem mk_J9_max_7cf53 : mx_mok (fun a => mt_nm[a]?) mt_J9_max_7cf53 = true := by decide +kernel
def mt_J9_min_7cf53 : mM := (yJ9_min_7cf53, cJ9_min_7cf53, (2, (some .int), 2, 0, 1), (330, 329, 0, 152),
  [(0, .iload_n 0), (1, .iload_n 1), (2, .if_icmp .gt 7), (5, .iload_n 0), (6, .goto 4), (9, .iload_n 1), (10, .ireturn)],
  [], none)
set_option maxRecDepth 100000 in
theorem mk_J9_min_7cf53 : mx_mok (fun a => mt_nm[a]?) mt_J9_min_7cf53 = true := by decide +kernel
